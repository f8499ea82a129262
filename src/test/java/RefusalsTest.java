import java.util.function.ToIntFunction;

/** A refused call answers its number and changes nothing but how many such REFUSALS there were. */
public final class RefusalsTest {
    private static final int TOLD = 1000000000;

    private RefusalsTest() {
    }

    public static void main(String[] args) {
        simple();
        asTold();
        withoutTable();
        extremes();
        Due.end();
    }

    private static HardBench bench() {
        HardBench x = new HardBench();
        x.make(3, 4);
        x.table(0, 0, 3, 1, 3);
        return x;
    }

    private static void simple() {
        refused("make", -4, x -> x.make(1, 9));
        refused("make", -6, x -> x.make(5, 9));
        refused("next", -1, x -> x.next(256));
        refused("next", -3, x -> x.next(112));
        refused("between", -1, x -> x.between(112, 256));
        refused("between", -3, x -> x.between(0, 113));
        refused("round", -1, x -> x.round(-100001, 61, 5));
        refused("round", -4, x -> x.round(-100001, 61, 4));
        refused("round", -6, x -> x.round(100001, 60, 4));
        refused("right", -1, x -> x.right(0, 256, 0));
        refused("sort", -1, x -> x.sort(5, 0));
        refused("figures", -1, x -> x.figures(0, -1));
        refused("hard", -1, x -> x.hard(-1, 0));
        refused("hardest", -1, x -> x.hardest(5, -1));
        refused("count", -1, x -> x.count(5, -1));
        refused("count", -4, x -> x.count(4, -1));
        refused("count", -6, x -> x.count(4, 10));
        refused("all", -1, x -> x.all(5, 4));
        refused("all", -2, x -> x.all(4, 4));
        refused("spans", -1, x -> x.spans(0, 5));
        refused("span", -1, x -> x.span(0, 0, 100, 3));
        refused("span", -2, x -> x.span(0, 0, 0, 3));
        refused("table", -1, x -> x.table(1, 1, 7, 2, 11));
        refused("table", -2, x -> x.table(1, 1, 6, 2, 11));
        refused("table", -4, x -> x.table(1, 1, 6, 0, -1));
        refused("table", -6, x -> x.table(1, 1, 6, 0, 11));
        refused("look", -1, x -> x.look(16));
        refused("fits", -1, x -> x.fits(0, 0, 1, 0, 16, -1000000001, 0, 11));
        refused("fits", -4, x -> x.fits(0, 0, 1, 0, 15, -1000000001, 0, 11));
        refused("fits", -6, x -> x.fits(0, 0, 1, 0, 15, 0, 0, 11));
    }

    private static void asTold() {
        refusedWith("about", -1, TOLD + 1, x -> x.about(256, 6));
        refusedWith("about", -2, TOLD + 2, x -> x.about(113, 6));
        refusedWith("about", -3, TOLD + 3, x -> x.about(113, 5));
        refusedWith("part", -1, TOLD + 1, x -> x.part(100, 4));
        refusedWith("part", -2, TOLD + 2, x -> x.part(0, 4));
    }

    private static void withoutTable() {
        HardBench x = new HardBench();
        Due.is("part", x.part(-1, 4), TOLD + 3);
        Due.is("look", x.look(-1), -3);
        Due.is("both are counted", x.status(13), 2);
        Due.is("as STATE alone", x.status(11) + x.status(12), 0);
    }

    private static void refused(String call, int number, ToIntFunction<HardBench> made) {
        refusedWith(call, number, number, made);
    }

    private static void refusedWith(String call, int number, int answer, ToIntFunction<HardBench> made) {
        HardBench x = bench();
        int[] before = state(x);
        Due.is(call, made.applyAsInt(x), answer);
        int[] after = state(x);
        for (int k = 0; k < before.length; k++) {
            int want = k == -number ? before[k] + 1 : before[k];
            Due.is(call + " " + number + " and state " + k, after[k], want);
        }
    }

    /** REFUSALS -1 .. -6 at 1 .. 6, and behind them what else can be seen. */
    private static int[] state(HardBench x) {
        int[] seen = new int[7 + 5 + 16 + 4 + 3];
        int n = 1;
        for (int what = 11; what <= 16; what++) {
            seen[n++] = x.status(what);
        }
        for (int what = 0; what <= 4; what++) {
            seen[n++] = x.status(what);
        }
        for (int z = 0; z < 16; z++) {
            seen[n++] = x.look(z);
        }
        for (int what = 0; what <= 3; what++) {
            seen[n++] = x.part(0, what);
        }
        seen[n++] = x.hardest(2, 0);
        seen[n++] = x.spans(2, 0);
        seen[n] = x.all(3, 2);
        return seen;
    }

    /** Whatever the arguments are, a call answers. */
    private static void extremes() {
        int[] odd = {Integer.MIN_VALUE, -1000000000, -1, 0, 1, 2, 3, 4, 127, 1000000000, Integer.MAX_VALUE};
        for (int a : odd) {
            for (int b : odd) {
                HardBench x = bench();
                x.about(a, b);
                x.between(a, b);
                x.sort(a, b);
                x.figures(a, b);
                x.hard(a, b);
                x.hardest(a, b);
                x.count(a, b);
                x.all(a, b);
                x.spans(a, b);
                x.part(a, b);
                x.look(a);
                x.next(a);
                x.status(a);
                for (int c : odd) {
                    x.round(a, b, c);
                    x.right(a, b, c);
                    x.span(a, b, c, 1);
                    x.table(a, b, c, 1, 3);
                    x.fits(a, b, 1, c, c, a, b, 3);
                }
                Due.holds("REFUSALS are counted", x.status(11) > 0 && x.status(15) == 0);
                x.make(a, b);
            }
        }
    }
}
