import java.util.Arrays;

/**
 * Promises 2 to 20: each REFUSAL at the last number that is refused and at the first that is not, and of several
 * the first in the order in which the promise tells them.
 */
public final class RefusalEdgesTest {
    /** One call, and before and behind it what status tells. */
    private static final int LOOKS = 1 + 2 * 11;
    private static final int CALLS = 512;

    private static Bench make;
    private static int[] tableArguments;
    private static HardBench object;
    private static int calls;

    private RefusalEdgesTest() {
    }

    public static void main(String[] args) {
        for (int e = 2; e <= 5; e++) {
            for (int f = 1; f <= 8; f++) {
                lookAtMake(new Bench(e, f));
            }
        }
        Due.end();
    }

    private static void lookAtMake(Bench newMake) {
        make = newMake;
        boolean whole = make.e == 3 && make.f == 3 || make.e == 2 && make.f == 1 || make.e == 5 && make.f == 8;
        tableArguments = null;
        lookAtAll(0, whole);
        tableArguments = new int[] {0, 0, 1, 0, 0};
        renew();
        lookAtAll(object.status(4), whole);
    }

    private static void lookAtAll(int parts, boolean whole) {
        renew();
        for (Calls one : Calls.of(make, parts)) {
            farOut(one);
            oneOut(one);
            twoOut(one);
            if (whole) {
                everyMix(one, one.taken(), 0);
            }
        }
    }

    /** A new object in the state that is looked at. */
    private static void renew() {
        object = new HardBench();
        object.make(make.e, make.f);
        if (tableArguments != null) {
            int[] t = tableArguments;
            object.table(t[0], t[1], t[2], t[3], t[4]);
        }
        calls = 2;
    }

    /** The last number that is refused and the first that is not, on either side. */
    private static int[] edges(int[] limits) {
        if (limits[0] == Integer.MIN_VALUE) {
            return new int[] {Integer.MIN_VALUE, -1, 0, Integer.MAX_VALUE};
        }
        return new int[] {limits[0] - 1, limits[0], limits[1], limits[1] + 1};
    }

    private static void farOut(Calls one) {
        for (int k = 0; k < one.limits.length; k++) {
            int[] arguments = one.taken();
            arguments[k] = Integer.MIN_VALUE;
            look(one, arguments);
            arguments[k] = Integer.MAX_VALUE;
            look(one, arguments);
        }
    }

    private static void oneOut(Calls one) {
        for (int k = 0; k < one.limits.length; k++) {
            for (int edge : edges(one.limits[k])) {
                int[] arguments = one.taken();
                arguments[k] = edge;
                look(one, arguments);
            }
        }
    }

    private static void twoOut(Calls one) {
        for (int k = 0; k < one.limits.length; k++) {
            for (int j = k + 1; j < one.limits.length; j++) {
                for (int edge : edges(one.limits[k])) {
                    for (int other : edges(one.limits[j])) {
                        int[] arguments = one.taken();
                        arguments[k] = edge;
                        arguments[j] = other;
                        look(one, arguments);
                    }
                }
            }
        }
    }

    private static void everyMix(Calls one, int[] arguments, int k) {
        if (k == arguments.length) {
            look(one, arguments);
            return;
        }
        for (int edge : edges(one.limits[k])) {
            int[] mixed = arguments.clone();
            mixed[k] = edge;
            everyMix(one, mixed, k + 1);
        }
    }

    private static void look(Calls one, int[] arguments) {
        if (calls + LOOKS > CALLS) {
            renew();
        }
        calls += LOOKS;
        int due = one.refusal(arguments);
        int[] before = state();
        int answer = one.on(object, arguments);
        int[] after = state();
        boolean asDue = due == 0 ? !one.looksRefused(answer) : answer == one.told(due);
        Due.holds(asDue, () -> told(one, arguments) + " answered " + answer + ", the REFUSAL due is " + due);
        boolean changes = due == 0 && (one.promise == 2 || one.promise == 16);
        for (int k = changes ? 5 : 0; k < before.length; k++) {
            int at = k;
            int want = due != 0 && k == 4 - due ? before[k] + 1 : before[k];
            Due.holds(after[k] == want, () -> told(one, arguments) + " changed state " + at + " to " + after[at]);
        }
        if (changes) {
            renew();
        }
    }

    private static String told(Calls one, int[] arguments) {
        return make.named(one.name + Arrays.toString(arguments) + (tableArguments == null ? "" : " with a TABLE"));
    }

    /** status 0 .. 4, and behind it 11 .. 16. */
    private static int[] state() {
        int[] seen = new int[11];
        for (int what = 0; what < 5; what++) {
            seen[what] = object.status(what);
        }
        for (int what = 11; what <= 16; what++) {
            seen[what - 6] = object.status(what);
        }
        return seen;
    }
}
