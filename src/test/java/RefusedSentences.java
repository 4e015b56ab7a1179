import java.util.List;

/** Each refused argument of each call: which exception is thrown, which of several, and that nothing is changed. */
final class RefusedSentences {
    private static final String FIRST = "If several exceptions apply, the one that is documented first is thrown.";
    private static final String NOTHING = "A method that throws an exception changes nothing.";

    private RefusedSentences() {
    }

    static void check() {
        for (CallTable.Entry entry : CallTable.CALLS) {
            for (int place = 0; place < entry.kinds().length(); place++) {
                for (Object refused : CallTable.refused(entry.kinds().charAt(place))) {
                    refuse(entry, place, refused);
                }
                for (int other = place + 1; other < entry.kinds().length(); other++) {
                    refuseBoth(entry, place, other);
                }
            }
            refuseAll(entry);
        }
    }

    private static void refuse(CallTable.Entry entry, int place, Object refused) {
        String exception = CallTable.exceptionOf(entry.kinds().charAt(place));
        String call = entry.with(place, refused).told();
        Sentence.of(entry.promise(), Document.throwing(entry.promise(), exception))
                .withRow(CallTable.ROW, CallTable.MAPS).refuses(call, exception);
    }

    /** Two refused arguments: the exceptions are documented in the order slot, number, what is not there. */
    private static void refuseBoth(CallTable.Entry entry, int place, int other) {
        char kind = entry.kinds().charAt(place);
        char otherKind = entry.kinds().charAt(other);
        boolean isSlot = kind == 's' || otherKind == 's';
        String first = CallTable.exceptionOf(isSlot ? 's' : kind);
        List<Object> firsts = edgesOf(kind);
        List<Object> others = edgesOf(otherKind);
        for (Object one : firsts) {
            for (Object another : others) {
                refuseAhead(entry.with(place, one).with(other, another), first);
            }
        }
    }

    private static List<Object> edgesOf(char kind) {
        List<Object> refused = CallTable.refused(kind);
        return refused.subList(0, Math.min(2, refused.size()));
    }

    private static void refuseAll(CallTable.Entry entry) {
        CallTable.Entry wrong = entry;
        for (int place = 0; place < entry.kinds().length(); place++) {
            List<Object> refused = CallTable.refused(entry.kinds().charAt(place));
            wrong = refused.isEmpty() ? wrong : wrong.with(place, refused.get(0));
        }
        if (wrong != entry) {
            char first = entry.kinds().charAt(0);
            refuseAhead(wrong, CallTable.exceptionOf(first));
        }
    }

    private static void refuseAhead(CallTable.Entry wrong, String first) {
        Sentence.of(wrong.promise(), Document.throwing(wrong.promise(), first))
                .withRow(CallTable.ROW, CallTable.MAPS).refuses(wrong.told(), first);
        Sentence.of(0, FIRST).withRow(CallTable.ROW, CallTable.MAPS).refuses(wrong.told(), first);
        Sentence.of(0, NOTHING).withRow(CallTable.ROW, CallTable.MAPS).refuses(wrong.told(), first);
    }
}
