import java.util.ArrayList;
import java.util.HashMap;
import java.util.List;
import java.util.Map;

/**
 * An object as the document tells it, promise by promise, in its plainest form: answers are reckoned by Oracle and
 * by search, and the state is the MAKE, the latest TABLE and how many REFUSALS there were.
 */
final class Model {
    private static final int TOLD = 1000000000;
    private static final int END = 1000000000;
    /** What was reckoned once of a MAKE, whichever object asked for it. */
    private static final Map<Integer, Sums> SUMS = new HashMap<>();

    Oracle make = sums(3, 3).make;
    /** Of each PART the first z, the last one, a, b; null if there is no TABLE. */
    List<int[]> table = null;
    private int tableS = 0;
    private final int[] refusals = new int[7];

    /** Of one MAKE: CODES by HARDNESS and by sort of each function, and SPANS of each function and ROUNDING. */
    private static final class Sums {
        final Oracle make;
        final List<List<List<Integer>>> hardnesses = new ArrayList<>();
        final List<int[]> sorts = new ArrayList<>();
        final Map<Integer, List<int[]>> spans = new HashMap<>();

        Sums(int e, int f) {
            make = new Oracle(e, f);
        }

        void take() {
            for (int function = 0; function < 5 && hardnesses.size() < 5; function++) {
                List<List<Integer>> byHardness = new ArrayList<>();
                for (int h = 0; h < 10; h++) {
                    byHardness.add(new ArrayList<>());
                }
                int[] bySort = new int[4];
                for (int code = 0; code < make.codes; code++) {
                    byHardness.get(make.hard(function, code)).add(code);
                    bySort[make.sort(function, code)]++;
                }
                hardnesses.add(byHardness);
                sorts.add(bySort);
            }
        }

        List<int[]> spansOf(int function, int rounding) {
            return spans.computeIfAbsent(function * 5 + rounding, key -> {
                List<int[]> all = new ArrayList<>();
                for (int code = 1; code < make.endless; code++) {
                    int result = make.right(function, code, rounding);
                    if (all.isEmpty() || all.get(all.size() - 1)[2] != result) {
                        all.add(new int[] {code, code, result});
                    }
                    all.get(all.size() - 1)[1] = code;
                }
                return all;
            });
        }
    }

    private static Sums sums(int e, int f) {
        return SUMS.computeIfAbsent(e * 10 + f, key -> new Sums(e, f));
    }

    private Sums sums() {
        return sums(make.e, make.f);
    }

    private Sums sumsTaken() {
        sums().take();
        return sums();
    }

    /** The CODES of the greatest HARDNESS. */
    List<Integer> hardest(int function) {
        List<List<Integer>> byHardness = sumsTaken().hardnesses.get(function);
        int greatest = 9;
        while (byHardness.get(greatest).isEmpty()) {
            greatest--;
        }
        return byHardness.get(greatest);
    }

    List<int[]> spans(int function, int rounding) {
        return sums().spansOf(function, rounding);
    }

    private int refused(int number) {
        refusals[-number]++;
        return number;
    }

    private int refusedAsTold(int number) {
        return TOLD - refused(number);
    }

    private static boolean in(int number, int least, int greatest) {
        return number >= least && number <= greatest;
    }

    private boolean isCode(int code) {
        return in(code, 0, make.codes - 1);
    }

    private boolean isPower(int power) {
        return in(power, 1, (1 << make.e) - 2);
    }

    private boolean isZ(int z) {
        return in(z, 0, (1 << make.f) - 1);
    }

    /** The answer that is due for a call by its promise's number. */
    int answer(int promise, int[] a) {
        if (promise <= 6) {
            return ofFloats(promise, a);
        }
        if (promise <= 10) {
            return ofValue(promise, a);
        }
        if (promise <= 15) {
            return ofAll(promise, a);
        }
        switch (promise) {
            case 16:
                return table(a);
            case 17:
                return part(a);
            case 18:
                return look(a[0]);
            case 19:
                return fits(a);
            default:
                return status(a[0]);
        }
    }

    private int ofFloats(int promise, int[] a) {
        switch (promise) {
            case 2:
                if (a[0] < 2 || a[1] < 1) {
                    return refused(-4);
                }
                if (a[0] > 5 || a[1] > 8) {
                    return refused(-6);
                }
                make = sums(a[0], a[1]).make;
                table = null;
                return make.codes;
            case 3:
                return about(a[0], a[1]);
            case 4:
                if (!isCode(a[0])) {
                    return refused(-1);
                }
                return make.isPlain(a[0]) ? codeOfStep(step(a[0]) + 1) : refused(-3);
            case 5:
                if (!isCode(a[0]) || !isCode(a[1])) {
                    return refused(-1);
                }
                boolean plain = make.isPlain(a[0]) && make.isPlain(a[1]);
                return plain ? Math.max(Math.abs(step(a[0]) - step(a[1])) - 1, 0) : refused(-3);
            default:
                return round(a[0], a[1], a[2]);
        }
    }

    /** The PLAIN ones by their order, 0 being 0. */
    private int step(int code) {
        return code < make.sign ? code : make.sign - code;
    }

    private int codeOfStep(int step) {
        return step >= 0 ? step : make.sign - step;
    }

    private int about(int code, int what) {
        if (!isCode(code)) {
            return refusedAsTold(-1);
        }
        if (!in(what, 0, 5)) {
            return refusedAsTold(-2);
        }
        int amount = code % make.sign;
        if (what > 3 && amount >= make.endless) {
            return refusedAsTold(-3);
        }
        int p = amount >> make.f;
        int q = amount % (1 << make.f);
        int m = p == 0 ? q : (1 << make.f) + q;
        int x = Math.max(p, 1) - make.bias - make.f;
        for (; m != 0 && m % 2 == 0; m /= 2) {
            x++;
        }
        int kind = amount == 0 ? 1 : amount < make.endless ? 0 : amount == make.endless ? 2 : 3;
        return new int[] {kind, code / make.sign, p, q, m, m == 0 ? 0 : x}[what];
    }

    private int round(int m, int x, int rounding) {
        if (!in(rounding, 0, 4)) {
            return refused(-1);
        }
        if (m < -100000 || x < -60) {
            return refused(-4);
        }
        if (m > 100000 || x > 60) {
            return refused(-6);
        }
        return m == 0 ? 0 : make.rounded(Oracle.number(m, x), m < 0, rounding);
    }

    private int ofValue(int promise, int[] a) {
        if (!in(a[0], 0, 4) || !isCode(a[1]) || promise == 7 && !in(a[2], 0, 4)) {
            return refused(-1);
        }
        switch (promise) {
            case 7:
                return make.right(a[0], a[1], a[2]);
            case 8:
                return make.sort(a[0], a[1]);
            case 9:
                return make.figures(a[0], a[1]);
            default:
                return make.hard(a[0], a[1]);
        }
    }

    private int ofAll(int promise, int[] a) {
        if (!in(a[0], 0, 4) || promise >= 14 && !in(a[1], 0, 4)) {
            return refused(-1);
        }
        switch (promise) {
            case 11:
                return in(a[1], 0, hardest(a[0]).size() - 1) ? hardest(a[0]).get(a[1]) : -9;
            case 12:
                if (!in(a[1], 0, 9)) {
                    return refused(a[1] < 0 ? -4 : -6);
                }
                return sumsTaken().hardnesses.get(a[0]).get(a[1]).size();
            case 13:
                return in(a[1], 0, 3) ? sumsTaken().sorts.get(a[0])[a[1]] : refused(-2);
            case 14:
                return spans(a[0], a[1]).size();
            default:
                if (!in(a[2], 0, spans(a[0], a[1]).size() - 1)) {
                    return refused(-1);
                }
                return in(a[3], 0, 2) ? spans(a[0], a[1]).get(a[2])[a[3]] : refused(-2);
        }
    }

    private int table(int[] a) {
        if (!in(a[0], 0, 4) || !in(a[1], 0, 4) || !isPower(a[2])) {
            return refused(-1);
        }
        if (!in(a[3], 0, 1)) {
            return refused(-2);
        }
        if (!in(a[4], 0, 10)) {
            return refused(a[4] < 0 ? -4 : -6);
        }
        int[] due = new int[1 << make.f];
        for (int z = 0; z < due.length; z++) {
            due[z] = make.right(a[0], (a[2] << make.f) + z, a[1]);
        }
        table = new ArrayList<>();
        tableS = a[4];
        for (int first = 0; first < due.length;) {
            int[] lastAB = PartSearch.longest(due, first, a[3], tableS);
            table.add(new int[] {first, lastAB[0], lastAB[1], lastAB[2]});
            first = lastAB[0] + 1;
        }
        return table.size();
    }

    private int part(int[] a) {
        if (table == null) {
            return refusedAsTold(-3);
        }
        if (!in(a[0], 0, table.size() - 1)) {
            return refusedAsTold(-1);
        }
        return in(a[1], 0, 3) ? table.get(a[0])[a[1]] : refusedAsTold(-2);
    }

    private int look(int z) {
        if (table == null) {
            return refused(-3);
        }
        for (int[] part : table) {
            if (in(z, part[0], part[1])) {
                return (int) told(part[2], part[3], z, tableS);
            }
        }
        return refused(-1);
    }

    private static long told(long a, long b, long z, int s) {
        return Math.floorDiv(a + b * z, 1L << s);
    }

    private int fits(int[] a) {
        if (!in(a[0], 0, 4) || !in(a[1], 0, 4) || !isPower(a[2]) || !isZ(a[3]) || !isZ(a[4]) || a[3] > a[4]) {
            return refused(-1);
        }
        if (a[5] < -END || a[6] < -END || a[7] < 0) {
            return refused(-4);
        }
        if (a[5] > END || a[6] > END || a[7] > 10) {
            return refused(-6);
        }
        for (int z = a[3]; z <= a[4]; z++) {
            if (told(a[5], a[6], z, a[7]) != make.right(a[0], (a[2] << make.f) + z, a[1])) {
                return z;
            }
        }
        return -9;
    }

    private int status(int what) {
        int parts = table == null ? 0 : table.size();
        int[] first = {make.e, make.f, make.codes, table == null ? 0 : 1, parts};
        if (in(what, 0, 4)) {
            return first[what];
        }
        return in(what, 11, 16) ? refusals[what - 10] : -9;
    }
}
