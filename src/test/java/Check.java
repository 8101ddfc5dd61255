import java.util.Objects;

/** Counts and prints the answers that are not as due. */
final class Check {
    /** One fault can spoil all calls behind it, so that the first lines tell the most. */
    private static final int MOST_PRINTED = 20;

    private static int checks = 0;
    private static int wrong = 0;

    private Check() {
    }

    /** A call of the class, with its answer; null for a call that answers nothing. */
    interface Call {
        Object answer();
    }

    static void same(String what, Object want, Object got) {
        checks++;
        if (!Objects.equals(want, got)) {
            wrong++;
            if (wrong <= MOST_PRINTED) {
                System.out.println(what + " answered " + got + ", due is " + want);
            }
        }
    }

    /** The call must throw this very class, not one below it, as the machine's own exceptions are. */
    static void refuses(String what, Class<? extends RuntimeException> type, Call call) {
        same(what, "throws." + type.getSimpleName(), answerOf(call));
    }

    /** The answer of a call, or "throws." and the name of its exception. */
    static Object answerOf(Call call) {
        try {
            return call.answer();
        } catch (RuntimeException thrown) {
            return "throws." + thrown.getClass().getSimpleName();
        }
    }

    static void finish(String name) {
        System.out.println(name + ": " + checks + " checks, " + wrong + " not as due");
        if (wrong != 0) {
            System.exit(1);
        }
    }
}
