import java.util.ArrayList;
import java.util.List;

/**
 * Each call of the face behind each other one, and as often as an object is used, compared with MapModel: no call finds
 * a trace of another one beside what the document tells.
 */
public final class PairsTest {
    private final List<CallTable.Entry> making;
    private final List<CallTable.Entry> calls;

    private PairsTest(List<CallTable.Entry> making, List<CallTable.Entry> calls) {
        this.making = making;
        this.calls = calls;
    }

    public static void main(String[] args) {
        new PairsTest(CallTable.making(), CallTable.CALLS).checkAll();
        new PairsTest(mirrored(CallTable.making()), mirrored(CallTable.CALLS)).checkAll();
        Check.end("PairsTest");
    }

    private static List<CallTable.Entry> mirrored(List<CallTable.Entry> entries) {
        List<CallTable.Entry> mirrored = new ArrayList<>();
        for (CallTable.Entry entry : entries) {
            mirrored.add(entry.mirrored());
        }
        return mirrored;
    }

    private void checkAll() {
        for (CallTable.Entry first : calls) {
            check(first, first, 500);
            for (CallTable.Entry second : calls) {
                check(first, second, 1);
            }
        }
    }

    private void check(CallTable.Entry first, CallTable.Entry second, int times) {
        Keywright x = new Keywright();
        MapModel model = new MapModel();
        for (CallTable.Entry entry : making) {
            Calls.answer(x, entry.told());
            Calls.answer(model, entry.told());
        }
        Calls.answer(x, first.told());
        Calls.answer(model, first.told());
        String name = first.told() + ", then " + second.told();
        for (int count = 0; count < times; count++) {
            Check.due(name, Calls.answer(x, second.told()), Calls.answer(model, second.told()));
        }
        Check.due(name + ", then all of it", x.checksum(), model.checksum());
    }
}
