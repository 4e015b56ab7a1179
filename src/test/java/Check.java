import java.util.Objects;

/** Compares answers with the ones that are due, and ends a test. */
final class Check {
    /** A call that answers something, or throws. */
    interface Call {
        Object answer();
    }

    private static int checks = 0;
    private static int wrong = 0;

    private Check() {
    }

    static void due(String call, Object got, Object want) {
        checks++;
        if (!Objects.equals(got, want)) {
            wrong++;
            System.out.println(call + " answered " + got + ", due is " + want);
        }
    }

    static String told(Call call) {
        try {
            return String.valueOf(call.answer());
        } catch (RuntimeException thrown) {
            return "throws." + thrown.getClass().getSimpleName();
        }
    }

    /** What can be seen of an object, the maps that it keeps among it: these are undone on the way. */
    static String portrait(Keywright x) {
        StringBuilder text = new StringBuilder();
        text.append(x.checksum());
        for (int times = 0; times < 20; times++) {
            text.append(' ').append(told(x::undo)).append(' ').append(x.checksum());
        }
        return text.toString();
    }

    static void end(String test) {
        System.out.println(test + ": " + checks + " checks, " + wrong + " wrong");
        if (wrong != 0 || checks == 0) {
            System.exit(1);
        }
    }
}
