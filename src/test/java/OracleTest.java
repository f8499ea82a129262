import java.util.ArrayList;
import java.util.List;

/** Every answer over all CODES of every MAKE against the document's words (promises 2 to 15). */
public final class OracleTest {
    private static Bench make;
    private static Oracle oracle;

    private OracleTest() {
    }

    public static void main(String[] args) {
        for (int e = 2; e <= 5; e++) {
            for (int f = 1; f <= 8; f++) {
                lookAtMake(e, f);
            }
        }
        Due.end();
    }

    private static void lookAtMake(int e, int f) {
        oracle = new Oracle(e, f);
        make = new Bench(e, f);
        lookAtOrder();
        lookAtRound();
        for (int function = 0; function < 5; function++) {
            lookAtFunction(function);
            for (int rounding = 0; rounding < 5; rounding++) {
                lookAtSpans(function, rounding);
            }
        }
    }

    private static HardBench bench() {
        return make.x();
    }

    private static String named(String call, int... arguments) {
        StringBuilder text = new StringBuilder(make.named(call)).append('(');
        for (int argument : arguments) {
            text.append(' ').append(argument);
        }
        return text.append(" )").toString();
    }

    /** All PLAIN ones from the least on: -greatest .. -least, 0, least .. greatest. */
    private static void lookAtOrder() {
        int greatest = oracle.endless - 1;
        for (int step = -greatest; step <= greatest; step++) {
            int code = step < 0 ? oracle.sign - step : step;
            int above = step + 1 < 0 ? oracle.sign - step - 1 : step + 1;
            Due.is(named("next", code), bench().next(code), above);
            int other = (code * 7 + 3) % oracle.endless;
            int between = Math.max(Math.abs(other - step) - 1, 0);
            Due.is(named("between", code, other), bench().between(code, other), between);
        }
        Due.is(named("next", oracle.sign), bench().next(oracle.sign), 1);
        for (int code = 0; code < oracle.codes; code++) {
            lookAtAbout(code);
        }
    }

    private static void lookAtAbout(int code) {
        int amount = code % oracle.sign;
        int kind = amount == 0 ? 1 : amount < oracle.endless ? 0 : amount == oracle.endless ? 2 : 3;
        int p = amount >> oracle.f;
        int q = amount % (1 << oracle.f);
        Due.is(named("about", code, 0), bench().about(code, 0), kind);
        Due.is(named("about", code, 1), bench().about(code, 1), code / oracle.sign);
        Due.is(named("about", code, 2), bench().about(code, 2), p);
        Due.is(named("about", code, 3), bench().about(code, 3), q);
        if (kind > 1) {
            Due.is(named("about", code, 4), bench().about(code, 4), 1000000003);
            Due.is(named("about", code, 5), bench().about(code, 5), 1000000003);
            return;
        }
        int m = p == 0 ? q : (1 << oracle.f) + q;
        int x = Math.max(p, 1) - oracle.bias - oracle.f;
        while (m != 0 && m % 2 == 0) {
            m /= 2;
            x++;
        }
        Due.is(named("about", code, 4), bench().about(code, 4), m);
        Due.is(named("about", code, 5), bench().about(code, 5), m == 0 ? 0 : x);
    }

    private static void lookAtRound() {
        int[] factors = {1, 2, 3, 5, 7, 255, 256, 257, 511, 512, 513, 1023, 1025, 4095, 4097, 65535, 99999, 100000};
        for (int x = -60; x <= 60; x++) {
            for (int rounding = 0; rounding < 5; rounding++) {
                Due.is(named("round", 0, x, rounding), bench().round(0, x, rounding), 0);
                for (int m : factors) {
                    lookAtRound(m, x, rounding);
                    lookAtRound(-m, x, rounding);
                    lookAtRound((m * 31 + x * 7 + 500) % 100000, x, rounding);
                }
            }
        }
    }

    private static void lookAtRound(int m, int x, int rounding) {
        int want = m == 0 ? 0 : oracle.rounded(Oracle.number(m, x), m < 0, rounding);
        Due.is(named("round", m, x, rounding), bench().round(m, x, rounding), want);
    }

    private static void lookAtFunction(int function) {
        int[] sorts = new int[4];
        List<List<Integer>> byHardness = new ArrayList<>();
        for (int h = 0; h < 10; h++) {
            byHardness.add(new ArrayList<>());
        }
        for (int code = 0; code < oracle.codes; code++) {
            int sort = oracle.sort(function, code);
            int hard = oracle.hard(function, code);
            sorts[sort]++;
            byHardness.get(hard).add(code);
            Due.is(named("sort", function, code), bench().sort(function, code), sort);
            Due.is(named("figures", function, code), bench().figures(function, code), oracle.figures(function, code));
            Due.is(named("hard", function, code), bench().hard(function, code), hard);
            for (int rounding = 0; rounding < 5; rounding++) {
                int want = oracle.right(function, code, rounding);
                Due.is(named("right", function, code, rounding), bench().right(function, code, rounding), want);
            }
        }
        for (int sort = 0; sort < 4; sort++) {
            Due.is(named("all", function, sort), bench().all(function, sort), sorts[sort]);
        }
        for (int h = 0; h < 10; h++) {
            Due.is(named("count", function, h), bench().count(function, h), byHardness.get(h).size());
        }
        int greatest = 9;
        while (byHardness.get(greatest).isEmpty()) {
            greatest--;
        }
        lookAtHardest(function, byHardness.get(greatest));
    }

    private static void lookAtHardest(int function, List<Integer> hardest) {
        for (int i = 0; i < hardest.size(); i++) {
            Due.is(named("hardest", function, i), bench().hardest(function, i), hardest.get(i));
        }
        int[] none = {-1, hardest.size(), hardest.size() + 1, Integer.MAX_VALUE, Integer.MIN_VALUE};
        for (int i : none) {
            Due.is(named("hardest", function, i), bench().hardest(function, i), -9);
        }
    }

    private static void lookAtSpans(int function, int rounding) {
        int spans = 0;
        int first = 1;
        int result = oracle.right(function, 1, rounding);
        for (int code = 2; code <= oracle.endless; code++) {
            int here = code == oracle.endless ? -1 : oracle.right(function, code, rounding);
            if (here != result) {
                // of the longest lists a sample, and the ends
                if (spans < 50 || spans % 7 == 0 || here == -1) {
                    lookAtSpan(function, rounding, spans, new int[] {first, code - 1, result});
                }
                spans++;
                first = code;
                result = here;
            }
        }
        Due.is(named("spans", function, rounding), bench().spans(function, rounding), spans);
        Due.is(named("span", function, rounding, spans, 0), bench().span(function, rounding, spans, 0), -1);
    }

    private static void lookAtSpan(int function, int rounding, int i, int[] wants) {
        for (int what = 0; what < 3; what++) {
            Due.is(named("span", function, rounding, i, what), bench().span(function, rounding, i, what), wants[what]);
        }
    }
}
