/** Part 4 of the terms, and which calls are of writing or cutting: what is kept, for how long, and what is not. */
final class KeepingSentences {
    private static final String KEEPS = "Each call of writing or cutting, and each that lets a slot become something,"
            + " keeps the map that the slot held ahead";
    private static final String STAYS = "also if nothing is written, or that is the same then";

    private KeepingSentences() {
    }

    static void check() {
        eachCall();
        whatStays();
        atMostEight();
        theRow();
        interfaces();
    }

    private static void eachCall() {
        for (CallTable.Entry entry : CallTable.CALLS) {
            if (CallTable.doesKeep(entry)) {
                checkKept(Sentence.of(0, KEEPS), entry);
            }
        }
    }

    /** Undo gives back what was ahead, and behind that what was kept ahead: nothing more, nothing less. */
    private static void checkKept(Sentence s, CallTable.Entry entry) {
        Keywright x = Given.object(CallTable.ROW, CallTable.MAPS);
        Calls.answer(x, entry.told());
        s.holds(entry.told() + ", undone", Calls.answer(x, "undo()"), slotWritten(entry));
        s.holds(entry.told() + ", undone, all of it", Check.portrait(x),
                Check.portrait(Given.object(CallTable.ROW, CallTable.MAPS)));
    }

    private static Object slotWritten(CallTable.Entry entry) {
        boolean isLast = entry.promise() >= 26 && entry.promise() <= 33;
        return entry.arguments().get(isLast ? entry.arguments().size() - 1 : 0);
    }

    private static void whatStays() {
        Sentence s = Sentence.of(0, STAYS);
        String map = "1:2 2:1";
        String[] calls = {
            "put(0, 1, 2)", "putFirst(0, 1, 9)", "change(0, 9, 9)", "change(0, 1, 2)", "changeIf(0, 1, 9, 9)",
            "changeIf(0, 1, 2, 2)", "take(0, 9)", "takeIf(0, 1, 9)", "merge(0, 1, 0, '+')", "merge(0, 1, 1, '>')",
            "compute(0, 1, 'f')", "compute(0, 9, 'p')", "compute(0, 9, 'd')", "dropValue(0, 9)", "shift(0, 0)",
            "copy(0, 0)", "join(0, 1, 0)", "less(0, 1, 0)", "common(0, 0, 0)", "alike(0, 0, 0)", "turn(0, 0)",
            "power(0, 1, 0)", "power(0, 3, 0)", "play(0)", "playLast(0, false)", "playLast(0, true)",
        };
        for (String call : calls) {
            s.withRow(map, "").after("copy(1, 0)").after("undo()").after("play(0)").then(map);
            s.after(call).then(map).after("put(0, 9, 9)").due("undo()", 0).due("undo()", 0).then(map)
                    .due("undo()", 0).then("").due("undo()", "throws.NoSuchElementException");
        }
        String[] ofNothing = {
            "clear(3)", "dropValue(3, -1)", "dropOdd(3)", "shift(3, 1)", "copy(4, 3)", "join(4, 5, 3)",
            "less(4, 5, 3)", "common(4, 5, 3)", "alike(4, 5, 3)", "behind(4, 5, 3)", "turn(4, 3)", "power(4, 0, 3)",
            "play(3)", "playLast(3, false)", "playLast(3, true)",
        };
        for (String call : ofNothing) {
            s.from().due(call, 0).due("undo()", 3).due("undo()", "throws.NoSuchElementException").then();
        }
    }

    private static void atMostEight() {
        Sentence most = Sentence.of(0, "at most eight of these");
        for (int calls = 0; calls <= 20; calls++) {
            most.from();
            for (int call = 0; call < calls; call++) {
                most.due("put(" + call % 8 + ", 5, " + call + ")", call < 8 ? -2 : call - 8);
            }
            for (int back = 0; back < Math.min(calls, 8); back++) {
                int call = calls - 1 - back;
                most.due("undo()", call % 8).due("get(" + call % 8 + ", 5)", call < 8 ? -2 : call - 8);
            }
            most.due("undo()", "throws.NoSuchElementException").due("undo()", "throws.NoSuchElementException");
        }
        Sentence oldest = Sentence.of(0, "the oldest one being forgotten");
        oldest.from("1:1 2:2 3:3 4:4 5:5 6:6 7:7 8:8 9:9");
        for (int key = 9; key > 1; key--) {
            oldest.due("undo()", 0).then(Given.keys(1, key - 1, same -> same));
        }
        oldest.due("undo()", "throws.NoSuchElementException").then("1:1");
        oldest.from("1:1 2:2 3:3 4:4 5:5 6:6 7:7 8:8 9:9").after("undo()").after("undo()").after("put(1, 1, 1)");
        for (int count = 0; count < 7; count++) {
            oldest.due("undo()", count == 0 ? 1 : 0);
        }
        oldest.due("undo()", "throws.NoSuchElementException").then("1:1");
    }

    private static void theRow() {
        Sentence s = Sentence.of(0, "the row is not kept.");
        s.from().after("say(1, 2)").after("unsay(3)").after("say(4, 4)").after("stir(5)").after("lastWords()")
                .due("undo()", "throws.NoSuchElementException").after("hush()")
                .due("undo()", "throws.NoSuchElementException").thenRow("");
        s.withRow("1:2 3:4").due("play(0)", 2).due("say(5, 6)", 3).due("undo()", 0).thenRow("1:2 3:4 5:6");
        s.withRow("1:2 3:4").due("play(0)", 2).due("hush()", 2).due("undo()", 0).thenRow("");
    }

    private static void interfaces() {
        interfaceOf(2, 10, "Ahead of the calls `put`, `putFirst`, `change`, `changeIf`, `take`, `takeIf`, `merge`,"
                + " `compute`, `clear` the interface says: writing.");
        interfaceOf(11, 22, "Ahead of the calls `get`, `getOr`, `has`, `hasValue`, `size`, `kinds`, `keyAt`, `isSame`,"
                + " `areSameKeys`, `areSameValues`, `hash`, `keysHash` the interface says: asking.");
        interfaceOf(23, 30, "Ahead of the calls `dropValue`, `dropOdd`, `shift`, `copy`, `join`, `less`, `common`,"
                + " `alike` the interface says: cutting by views.");
        interfaceOf(31, 38, "Ahead of the calls `behind`, `turn`, `power`, `isInto`, `fixed`, `steps`, `ring`, `order`"
                + " the interface says: following.");
        interfaceOf(39, 45, "Ahead of the calls `say`, `unsay`, `hush`, `stir`, `play`, `playLast`, `lastWords`"
                + " the interface says: words.");
        interfaceOf(47, 50, "Ahead of the calls `undo`, `share`, `meanSize`, `checksum`, `isSound`"
                + " the interface says: figures.");
    }

    /** The calls from one promise to another one: those that keep something, and those that keep and change nothing. */
    private static void interfaceOf(int first, int last, String words) {
        Sentence s = Sentence.of(0, words);
        for (CallTable.Entry entry : CallTable.CALLS) {
            if (entry.promise() >= first && entry.promise() <= last) {
                if (CallTable.doesKeep(entry)) {
                    checkKept(s, entry);
                } else {
                    checkNotKept(s, entry);
                }
            }
        }
    }

    private static void checkNotKept(Sentence s, CallTable.Entry entry) {
        Keywright x = Given.object(CallTable.ROW, CallTable.MAPS);
        Calls.answer(x, entry.told());
        s.holds(entry.told() + " keeps nothing", slotsUndone(x),
                slotsUndone(Given.object(CallTable.ROW, CallTable.MAPS)));
        boolean isOfWords = entry.promise() >= 39 && entry.promise() <= 42;
        if (!isOfWords) {
            Keywright again = Given.object(CallTable.ROW, CallTable.MAPS);
            Calls.answer(again, entry.told());
            s.holds(entry.told() + " changes nothing", Check.portrait(again),
                    Check.portrait(Given.object(CallTable.ROW, CallTable.MAPS)));
        }
    }

    private static String slotsUndone(Keywright x) {
        StringBuilder text = new StringBuilder();
        for (int times = 0; times < 10; times++) {
            text.append(Calls.answer(x, "undo()"));
            for (int slot = 0; slot < 8; slot++) {
                text.append(' ').append(Given.told(x, slot));
            }
        }
        return text.toString();
    }
}
