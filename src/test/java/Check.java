import java.util.concurrent.Callable;

/** What all tests of the project share: they tell each wrong answer and end with 1 if there was one. */
final class Check {
    private static int wrong = 0;
    private static int asked = 0;

    private Check() {
    }

    /** The answer of a call as text; "throws.X" if it throws exactly X. */
    static String answer(Callable<?> call) {
        try {
            return String.valueOf(call.call());
        } catch (Exception e) {
            return "throws." + e.getClass().getSimpleName();
        }
    }

    /** A call without an answer, as one that answers "nothing". */
    static Callable<?> run(Runnable call) {
        return () -> {
            call.run();
            return "nothing";
        };
    }

    static boolean due(String what, Object want, Callable<?> call) {
        return same(what, String.valueOf(want), answer(call));
    }

    static void noIndex(String what, Callable<?> call) {
        due(what, "throws.IndexOutOfBoundsException", call);
    }

    static void noArgument(String what, Callable<?> call) {
        due(what, "throws.IllegalArgumentException", call);
    }

    static void noElement(String what, Callable<?> call) {
        due(what, "throws.NoSuchElementException", call);
    }

    static boolean same(String what, String want, String got) {
        asked++;
        if (want.equals(got)) {
            return true;
        }
        wrong++;
        System.out.println(what + " answered " + got + ", due is " + want);
        return false;
    }

    static void end(String test) {
        System.out.println(test + ": " + asked + " answers, " + wrong + " wrong");
        if (wrong != 0) {
            System.exit(1);
        }
    }
}
