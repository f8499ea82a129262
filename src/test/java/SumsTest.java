/**
 * Promises 11 to 15 tell the same whatever was asked before: of one object that is asked for all functions and
 * ROUNDINGS, and of another that is asked for them from the last on, against objects that are asked for one alone.
 */
public final class SumsTest {
    private static Bench make;
    private static HardBench forth;
    private static HardBench back;

    private SumsTest() {
    }

    public static void main(String[] args) {
        for (int e = 2; e <= 5; e++) {
            for (int f = 1; f <= 8; f++) {
                make = new Bench(e, f);
                hardest();
                spans();
            }
        }
        Due.end();
    }

    private static HardBench made() {
        HardBench x = new HardBench();
        x.make(make.e, make.f);
        return x;
    }

    private static void hardest() {
        forth = made();
        back = made();
        for (int function = 0; function < 5; function++) {
            forth.hardest(function, 0);
            back.hardest(4 - function, 0);
        }
        for (int function = 0; function < 5; function++) {
            HardBench alone = made();
            int last = 0;
            for (int hardness = 0; hardness <= 9; hardness++) {
                int want = alone.count(function, hardness);
                last = want > 0 ? want - 1 : last;
                both("12 count", forth.count(function, hardness), back.count(function, hardness), want);
            }
            for (int sort = 0; sort <= 3; sort++) {
                int want = alone.all(function, sort);
                both("13 all", forth.all(function, sort), back.all(function, sort), want);
            }
            int before = -1;
            for (int k = 0; k <= 20; k++) {
                int i = (int) ((long) last * k / 20);
                int want = alone.hardest(function, i);
                both("11 hardest " + i, forth.hardest(function, i), back.hardest(function, i), want);
                Due.holds(make.named("11 by numbers"), want > before || i == 0 || last < 20);
                before = want;
            }
            both("11 hardest, one too many", forth.hardest(function, last + 1), back.hardest(function, last + 1), -9);
        }
    }

    private static void spans() {
        forth = made();
        back = made();
        for (int k = 0; k < 25; k++) {
            forth.spans(k / 5, k % 5);
            back.spans((24 - k) / 5, (24 - k) % 5);
        }
        for (int k = 0; k < 25; k++) {
            int function = k / 5;
            int rounding = k % 5;
            HardBench alone = made();
            int spans = alone.spans(function, rounding);
            both("14 spans", forth.spans(function, rounding), back.spans(function, rounding), spans);
            int[] some = {0, spans / 4, spans / 2, spans - spans / 4 - 1, spans - 1};
            for (int i : some) {
                for (int what = 0; what < 3; what++) {
                    int want = alone.span(function, rounding, i, what);
                    int there = forth.span(function, rounding, i, what);
                    both("15 span " + i + " " + what, there, back.span(function, rounding, i, what), want);
                }
            }
        }
    }

    private static void both(String call, int got, int gotBack, int want) {
        Due.is(make.named(call + ", from the first function on"), got, want);
        Due.is(make.named(call + ", from the last function on"), gotBack, want);
    }
}
