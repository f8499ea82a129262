import java.util.ArrayList;
import java.util.Arrays;
import java.util.List;
import java.util.function.Consumer;

/**
 * REFUSALS change nothing but how many there were: of two objects with the same calls behind them one is refused
 * a call, and then both are asked for all that can be seen. Promises 2 to 20.
 */
public final class RefusalsTest {
    private RefusalsTest() {
    }

    public static void main(String[] args) {
        lookAtState("new", 3, 3, x -> { });
        lookAtState("with a TABLE", 3, 3, x -> x.table(0, 0, 3, 1, 4));
        lookAtState("with a TABLE of another function", 3, 2, RefusalsTest::tableAndSums);
        lookAtState("the least MAKE behind the greatest", 2, 1, RefusalsTest::behindTheGreatest);
        lookAtState("the TABLE is gone", 4, 2, RefusalsTest::tableGone);
        lookAtState("of many refused ones", 3, 3, RefusalsTest::manyRefused);
        manyAtOnce();
        extremes();
        Due.end();
    }

    private static void tableAndSums(HardBench x) {
        x.make(3, 2);
        x.hardest(1, 0);
        x.spans(1, 2);
        x.table(4, 2, 2, 1, 0);
    }

    private static void behindTheGreatest(HardBench x) {
        x.make(5, 8);
        x.table(1, 0, 15, 1, 8);
        x.hardest(0, 0);
        x.spans(0, 0);
        x.make(2, 1);
        x.table(3, 0, 1, 0, 10);
    }

    private static void tableGone(HardBench x) {
        x.table(1, 0, 3, 0, 0);
        x.make(4, 2);
    }

    private static void manyRefused(HardBench x) {
        for (int k = 0; k < 60; k++) {
            x.make(k % 2 == 0 ? 1 : 6, 4);
            x.all(k % 2 == 0 ? 5 : 0, 4);
            x.next(56);
        }
    }

    private static void lookAtState(String name, int e, int f, Consumer<HardBench> before) {
        HardBench probe = new HardBench();
        before.accept(probe);
        Due.is(name + ": E", probe.status(0), e);
        Due.is(name + ": F", probe.status(1), f);
        int parts = probe.status(4);
        for (Calls one : Calls.of(new Bench(e, f), parts)) {
            for (int[] arguments : refused(one)) {
                lookAtTwins(name, before, one, arguments);
            }
        }
    }

    /** Arguments that are refused, each by one of them alone, or by the state. */
    private static List<int[]> refused(Calls one) {
        List<int[]> all = new ArrayList<>();
        addIfRefused(all, one, one.taken());
        for (int k = 0; k < one.limits.length; k++) {
            for (int side = 0; side < 2; side++) {
                int[] out = one.taken();
                out[k] = side == 0 ? one.limits[k][0] - 1 : one.limits[k][1] + 1;
                addIfRefused(all, one, out);
                int[] edge = one.taken();
                edge[k] = one.limits[k][side];
                addIfRefused(all, one, edge);
            }
        }
        if (one.promise == 3) {
            addIfRefused(all, one, new int[] {one.limits[0][1], 4});
            addIfRefused(all, one, new int[] {one.limits[0][1], 5});
        }
        if (one.promise == 19) {
            addIfRefused(all, one, new int[] {0, 0, 1, 1, 0, 0, 0, 0});
        }
        return all;
    }

    private static void addIfRefused(List<int[]> all, Calls one, int[] arguments) {
        if (one.refusal(arguments) != 0) {
            all.add(arguments);
        }
    }

    private static void lookAtTwins(String name, Consumer<HardBench> before, Calls one, int[] arguments) {
        String call = name + ", " + one.name + Arrays.toString(arguments);
        HardBench refused = new HardBench();
        HardBench twin = new HardBench();
        before.accept(refused);
        before.accept(twin);
        int number = one.refusal(arguments);
        Due.is(call, one.on(refused, arguments), one.told(number));
        for (int what = 11; what <= 16; what++) {
            int more = what == 10 - number ? 1 : 0;
            Due.is(call + " and REFUSALS " + what, refused.status(what), twin.status(what) + more);
        }
        int[] seen = allSeen(refused);
        int[] want = allSeen(twin);
        for (int k = 0; k < want.length; k++) {
            Due.is(call + " and what is seen at " + k, seen[k], want[k]);
        }
    }

    /** What can be seen but for REFUSALS, by some 250 calls. */
    private static int[] allSeen(HardBench x) {
        int[] seen = new int[300];
        int n = 0;
        for (int what = 0; what <= 4; what++) {
            seen[n++] = x.status(what);
        }
        int zs = 1 << x.status(1);
        for (int z = 0; z < zs && x.status(3) == 1; z++) {
            seen[n++] = x.look(z);
        }
        int parts = x.status(4);
        for (int i = 0; i < parts; i++) {
            for (int what = 0; what <= 3; what++) {
                seen[n++] = x.part(i, what);
            }
        }
        for (int function = 0; function < 5; function++) {
            for (int hardness = 0; hardness <= 9; hardness++) {
                seen[n++] = x.count(function, hardness);
            }
            for (int sort = 0; sort <= 3; sort++) {
                seen[n++] = x.all(function, sort);
            }
            seen[n++] = x.hardest(function, 0);
            seen[n++] = x.hardest(function, 1);
            seen[n++] = x.right(function, 3, 0);
            seen[n++] = x.figures(function, 3);
            for (int rounding = 0; rounding < 5; rounding++) {
                seen[n++] = x.spans(function, rounding);
                seen[n++] = x.span(function, rounding, 1, 0);
            }
        }
        seen[n++] = x.round(-5, -3, 2);
        seen[n++] = x.about(3, 5);
        seen[n++] = x.fits(0, 0, 1, 0, 1, 5, 0, 0);
        return seen;
    }

    /** As many REFUSALS as an object has calls for, of each number told apart. */
    private static void manyAtOnce() {
        HardBench x = new HardBench();
        for (int k = 0; k < 100; k++) {
            x.next(-1);
            x.look(0);
            x.all(0, 4);
            x.make(1, 1);
            x.make(6, 1);
        }
        int[] wants = {100, 100, 100, 100, 0, 100};
        for (int k = 0; k < wants.length; k++) {
            Due.is("20 after 500 REFUSALS: -" + (k + 1), x.status(11 + k), wants[k]);
        }
        HardBench one = new HardBench();
        for (int k = 0; k < 511; k++) {
            one.right(5, 0, 0);
        }
        Due.is("20 the 512th call: REFUSALS -1", one.status(11), 511);
    }

    /** Whatever the arguments are, a call answers. */
    private static void extremes() {
        int[] odd = {Integer.MIN_VALUE, -1000000000, -1, 0, 1, 2, 3, 4, 127, 1000000000, Integer.MAX_VALUE};
        for (int a : odd) {
            for (int b : odd) {
                HardBench x = new HardBench();
                x.make(3, 4);
                x.table(0, 0, 3, 1, 3);
                x.about(a, b);
                x.between(a, b);
                x.sort(a, b);
                x.figures(a, b);
                x.hard(a, b);
                x.hardest(a, b);
                x.count(a, b);
                x.all(a, b);
                x.spans(a, b);
                x.part(a, b);
                x.look(a);
                x.next(a);
                x.status(a);
                for (int c : odd) {
                    x.round(a, b, c);
                    x.right(a, b, c);
                    x.span(a, b, c, 1);
                    x.table(a, b, c, 1, 3);
                    x.fits(a, b, 1, c, c, a, b, 3);
                }
                Due.holds("REFUSALS are counted", x.status(11) > 0 && x.status(15) == 0);
                x.make(a, b);
            }
        }
    }
}
