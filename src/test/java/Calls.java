import java.util.ArrayList;
import java.util.List;

/**
 * The calls of one promise, for a MAKE and with or without a TABLE: what the promise tells of each argument,
 * and so which REFUSAL is due for any arguments.
 */
final class Calls {
    static final int TOLD = 1000000000;
    /** No number is refused on this side. */
    static final int FREE = 0;

    final int promise;
    final String name;
    /** The REFUSALS in the order in which the promise tells them. */
    private final int[] order;
    /** Of each argument: the least that is taken, the greatest, the REFUSAL below, the REFUSAL above. */
    final int[][] limits;
    private final Bench make;
    private final boolean table;

    private Calls(Bench make, boolean table, String promiseAndName, int[] order, int[]... limits) {
        this.make = make;
        this.table = table;
        promise = Integer.parseInt(promiseAndName.substring(0, promiseAndName.indexOf(' ')));
        name = promiseAndName;
        this.order = order;
        this.limits = limits;
    }

    /** All promises that take arguments, for a MAKE; parts is how many PARTS the TABLE has, 0 if there is none. */
    static List<Calls> of(Bench make, int parts) {
        int[] code = {0, make.codes - 1, -1, -1};
        int[] function = {0, 4, -1, -1};
        int[] rounding = {0, 4, -1, -1};
        int[] power = {1, (1 << make.e) - 2, -1, -1};
        int[] z = {0, make.zs - 1, -1, -1};
        int[] s = {0, 10, -4, -6};
        int[] line = {-1000000000, 1000000000, -4, -6};
        // above: noSuchSpan
        int[] spans = {0, make.x().spans(0, 0) - 1, -1, FREE};
        int[] any = {Integer.MIN_VALUE, Integer.MAX_VALUE, FREE, FREE};
        boolean table = parts > 0;
        List<Calls> all = new ArrayList<>();
        all.add(new Calls(make, table, "2 make", row(-4, -6), row(2, 5, -4, -6), row(1, 8, -4, -6)));
        all.add(new Calls(make, table, "3 about", row(-1, -2, -3), code, row(0, 5, -2, -2)));
        all.add(new Calls(make, table, "4 next", row(-1, -3), code));
        all.add(new Calls(make, table, "5 between", row(-1, -3), code, code));
        all.add(new Calls(make, table, "6 round", row(-1, -4, -6),
            row(-100000, 100000, -4, -6), row(-60, 60, -4, -6), rounding));
        all.add(new Calls(make, table, "7 right", row(-1), function, code, rounding));
        all.add(new Calls(make, table, "8 sort", row(-1), function, code));
        all.add(new Calls(make, table, "9 figures", row(-1), function, code));
        all.add(new Calls(make, table, "10 hard", row(-1), function, code));
        all.add(new Calls(make, table, "11 hardest", row(-1), function, any));
        all.add(new Calls(make, table, "12 count", row(-1, -4, -6), function, row(0, 9, -4, -6)));
        all.add(new Calls(make, table, "13 all", row(-1, -2), function, row(0, 3, -2, -2)));
        all.add(new Calls(make, table, "14 spans", row(-1), function, rounding));
        all.add(new Calls(make, table, "15 span", row(-1, -2), function, rounding, spans, row(0, 2, -2, -2)));
        all.add(new Calls(make, table, "16 table", row(-1, -2, -4, -6),
            function, rounding, power, row(0, 1, -2, -2), s));
        all.add(new Calls(make, table, "17 part", row(-3, -1, -2), row(0, parts - 1, -1, -1), row(0, 3, -2, -2)));
        all.add(new Calls(make, table, "18 look", row(-3, -1), z));
        all.add(new Calls(make, table, "19 fits", row(-1, -4, -6), function, rounding, power, z, z, line, line, s));
        all.add(new Calls(make, table, "20 status", row(), any));
        return all;
    }

    private static int[] row(int... numbers) {
        return numbers;
    }

    /** Arguments that are all taken. */
    int[] taken() {
        int[] arguments = new int[limits.length];
        for (int k = 0; k < limits.length; k++) {
            arguments[k] = limits[k][0] == Integer.MIN_VALUE ? 0 : limits[k][0];
        }
        return arguments;
    }

    /** The REFUSAL that is due, 0 if none is. */
    int refusal(int[] arguments) {
        for (int number : order) {
            if (isDue(number, arguments)) {
                return number;
            }
        }
        return 0;
    }

    private boolean isDue(int number, int[] arguments) {
        for (int k = 0; k < limits.length; k++) {
            boolean below = arguments[k] < limits[k][0] && limits[k][2] == number;
            boolean above = arguments[k] > limits[k][1] && limits[k][3] == number;
            if (below || above) {
                return true;
            }
        }
        switch (promise) {
            case 3:
                return number == -3 && arguments[1] >= 4 && notPlain(arguments[0]);
            case 4:
                return number == -3 && notPlain(arguments[0]);
            case 5:
                return number == -3 && (notPlain(arguments[0]) || notPlain(arguments[1]));
            case 15:
                return number == -1 && noSuchSpan(arguments);
            case 17:
            case 18:
                return number == -3 && !table;
            case 19:
                return number == -1 && arguments[3] > arguments[4];
            default:
                return false;
        }
    }

    private boolean notPlain(int code) {
        return code % make.sign >= make.endless;
    }

    /** How many SPANS there are hangs on the function and the ROUNDING. */
    private boolean noSuchSpan(int[] a) {
        return a[2] >= make.x().spans(a[0], a[1]);
    }

    /** What the call answers if it is refused with a number. */
    int told(int number) {
        return promise == 3 || promise == 17 ? TOLD - number : number;
    }

    boolean looksRefused(int answer) {
        return promise == 3 || promise == 17 ? answer > TOLD : answer < 0 && answer != -9;
    }

    int on(HardBench x, int[] a) {
        return on(x, promise, a);
    }

    /** The call of a promise by its number. */
    static int on(HardBench x, int promise, int[] a) {
        switch (promise) {
            case 2:
                return x.make(a[0], a[1]);
            case 3:
                return x.about(a[0], a[1]);
            case 4:
                return x.next(a[0]);
            case 5:
                return x.between(a[0], a[1]);
            case 6:
                return x.round(a[0], a[1], a[2]);
            case 7:
                return x.right(a[0], a[1], a[2]);
            case 8:
                return x.sort(a[0], a[1]);
            case 9:
                return x.figures(a[0], a[1]);
            case 10:
                return x.hard(a[0], a[1]);
            case 11:
                return x.hardest(a[0], a[1]);
            case 12:
                return x.count(a[0], a[1]);
            case 13:
                return x.all(a[0], a[1]);
            case 14:
                return x.spans(a[0], a[1]);
            case 15:
                return x.span(a[0], a[1], a[2], a[3]);
            case 16:
                return x.table(a[0], a[1], a[2], a[3], a[4]);
            case 17:
                return x.part(a[0], a[1]);
            case 18:
                return x.look(a[0]);
            case 19:
                return x.fits(a[0], a[1], a[2], a[3], a[4], a[5], a[6], a[7]);
            default:
                return x.status(a[0]);
        }
    }
}
