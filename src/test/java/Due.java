import java.util.function.Supplier;

/** Counts the answers that are not as due; every test of the project ends by end(). */
final class Due {
    private static final int SHOWN = 40;
    private static int looked = 0;
    private static int wrong = 0;

    private Due() {
    }

    static void is(String call, long got, long want) {
        looked++;
        if (got != want) {
            tell(call + " answered " + got + ", due is " + want);
        }
    }

    static void holds(String what, boolean holds) {
        looked++;
        if (!holds) {
            tell(what + " does not hold");
        }
    }

    /** As the other one, where the text is dear to make. */
    static void holds(boolean holds, Supplier<String> what) {
        looked++;
        if (!holds) {
            tell(what.get());
        }
    }

    private static void tell(String text) {
        wrong++;
        if (wrong <= SHOWN) {
            System.out.println(text);
        }
    }

    static void end() {
        System.out.println(looked + " answers looked at, " + wrong + " wrong");
        if (wrong != 0 || looked == 0) {
            System.exit(1);
        }
    }
}
