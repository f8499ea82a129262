import java.util.Arrays;
import java.util.List;
import java.util.Random;

/**
 * Runs of 512 calls of promises 2 to 20, all mixed, on new objects against Model: what one call leaves behind for
 * the others. The number in front is the promise's; the same calls are made every time.
 */
public final class RunsTest {
    private static final int RUNS = 150;
    private static final int CALLS = 512;
    private static final int[] FAR = {Integer.MIN_VALUE, Integer.MAX_VALUE, -1, 0, 1000000000, -1000000000};

    private static Random luck;
    private static Model model;

    private RunsTest() {
    }

    public static void main(String[] args) {
        for (int run = 0; run < RUNS; run++) {
            luck = new Random(run);
            model = new Model();
            lookAtRun(run);
        }
        Due.end();
    }

    private static void lookAtRun(int run) {
        HardBench x = new HardBench();
        // the tables and sums of wide makes are dear to search for
        int widestF = run % 5 == 0 ? 8 : 4;
        String before = "";
        for (int k = 0; k < CALLS; k++) {
            int promise = nextPromise();
            int[] a = arguments(promise, widestF);
            String call = promise + " " + Arrays.toString(a);
            int want = model.answer(promise, a);
            Due.is("run " + run + ", call " + k + ", behind " + before + ": " + call, Calls.on(x, promise, a), want);
            before = call;
        }
    }

    /** A MAKE seldom changes, so that there is something left behind. */
    private static int nextPromise() {
        int promise = 2 + luck.nextInt(19);
        return promise == 2 && luck.nextInt(4) > 0 ? 16 + luck.nextInt(5) : promise;
    }

    private static int[] arguments(int promise, int widestF) {
        int zs = 1 << model.make.f;
        switch (promise) {
            case 2:
                return row(some(2, 5), some(1, luck.nextInt(10) == 0 ? 8 : widestF));
            case 3:
                return row(code(), some(0, 5));
            case 4:
                return row(code());
            case 5:
                return row(code(), code());
            case 6:
                boolean wide = luck.nextBoolean();
                return row(wide ? some(-100000, 100000) : some(-40, 40), wide ? some(-60, 60) : some(-12, 6), some(0, 4));
            case 7:
                return row(some(0, 4), code(), some(0, 4));
            case 8:
            case 9:
            case 10:
                return row(some(0, 4), code());
            case 16:
                return row(some(0, 4), some(0, 4), some(1, (1 << model.make.e) - 2), some(0, 1), some(0, 10));
            case 17:
                return row(some(0, model.table == null ? 3 : model.table.size() - 1), some(0, 3));
            case 18:
                return row(some(0, zs - 1));
            case 19:
                return line(zs);
            case 20:
                return row(some(0, 17));
            default:
                return argumentsOfAll(promise);
        }
    }

    private static int[] argumentsOfAll(int promise) {
        int function = luck.nextInt(5);
        int rounding = luck.nextInt(5);
        switch (promise) {
            case 11:
                return row(function, some(0, model.hardest(function).size() - 1));
            case 12:
                return row(some(0, 4), some(0, 9));
            case 13:
                return row(some(0, 4), some(0, 3));
            case 14:
                return row(some(0, 4), some(0, 4));
            default:
                return row(function, rounding, some(0, model.spans(function, rounding).size() - 1), some(0, 2));
        }
    }

    /** For fits: lines that give the CODE of a z's result or one next to it, and any others. */
    private static int[] line(int zs) {
        int function = luck.nextInt(5);
        int rounding = luck.nextInt(5);
        int power = 1 + luck.nextInt((1 << model.make.e) - 2);
        int from = luck.nextInt(zs);
        int to = from + luck.nextInt(zs - from);
        if (luck.nextInt(4) == 0) {
            return row(some(0, 4), some(0, 4), some(1, power), some(0, zs - 1), some(0, zs - 1),
                some(-1000000000, 1000000000), some(-1000000000, 1000000000), some(0, 10));
        }
        int s = luck.nextInt(11);
        int due = model.make.right(function, (power << model.make.f) + from, rounding);
        int b = luck.nextInt(2 << s) - (1 << s);
        int a = (due << s) - b * from + luck.nextInt(1 << s) - (luck.nextInt(8) == 0 ? 1 : 0);
        return row(function, rounding, power, from, to, a, b, s);
    }

    private static int[] row(int... numbers) {
        return numbers;
    }

    /** Mostly a number from least to greatest, often one of the two; now and then one beside them, or far off. */
    private static int some(int least, int greatest) {
        int way = luck.nextInt(60);
        if (way == 0) {
            return FAR[luck.nextInt(FAR.length)];
        }
        if (way <= 2) {
            return way == 1 ? least - 1 : greatest + 1;
        }
        if (way <= 10) {
            return way % 2 == 0 ? least : greatest;
        }
        return least + (int) (luck.nextDouble() * ((long) greatest - least + 1));
    }

    private static int code() {
        Oracle make = model.make;
        List<Integer> edges = List.of(0, 1, make.endless - 1, make.endless, make.endless + 1);
        if (luck.nextInt(5) == 0) {
            return edges.get(luck.nextInt(edges.size())) + luck.nextInt(2) * make.sign;
        }
        return some(0, make.codes - 1);
    }
}
