/**
 * The sentences of ROUNDING, RIGHT, EXACT, TIE, FIGURES and HARDNESS at their boundaries (promises 6 to 13):
 * between every FLOAT and the next one of all 32 MAKES, and by hand.
 */
public final class RoundingTest {
    private static final int NEAREST = 0;
    private static final int CUT = 1;
    private static final int UP = 2;
    private static final int DOWN = 3;
    private static final int ODD = 4;

    private static Bench make;

    private RoundingTest() {
    }

    public static void main(String[] args) {
        for (int e = 2; e <= 5; e++) {
            for (int f = 1; f <= 8; f++) {
                make = new Bench(e, f);
                betweenAll();
                nearNought();
                beyondTheGreatest();
                noughtItself();
                justBeyondByAFunction();
                halfTheLeastByAFunction();
                opposites();
                sumsOverAll();
            }
        }
        make = new Bench(5, 8);
        nearTheMiddle();
        figuresAtTheirEnds();
        make = new Bench(3, 3);
        figuresAreCut();
        hardnessOfEach();
        Due.end();
    }

    private static void roundIs(String sentence, int m, int x, int rounding, int want) {
        int got = make.x().round(m, x, rounding);
        Due.holds(got == want, () -> make.named("6 " + sentence + ": round(" + m + ", " + x + ", " + rounding
            + ") answered " + got + ", due is " + want));
    }

    /** From each v on to w by 128ths: at v, next to it, next to the middle, in it, next to w. */
    private static void betweenAll() {
        int[] steps = {0, 1, 63, 64, 65, 127};
        for (int v = 0; v <= make.greatest; v++) {
            int p = Math.max(v >> make.f, 1);
            int factor = (v >> make.f) == 0 ? v : make.zs + v % make.zs;
            int x = p - make.bias - make.f - 7;
            for (int step : steps) {
                int m = factor * 128 + step;
                if (m != 0) {
                    lookBetween(m, x, v, step);
                }
            }
        }
    }

    private static void lookBetween(int m, int x, int v, int step) {
        int minus = make.sign;
        if (step == 0) {
            for (int rounding = 0; rounding < 5; rounding++) {
                roundIs("if it is v: v", m, x, rounding, v);
                roundIs("if it is v: v, below 0", -m, x, rounding, minus + v);
            }
            return;
        }
        int w = v + 1;
        int even = v % 2 == 0 ? v : w;
        int odd = v % 2 == 0 ? w : v;
        int nearest = step < 64 ? v : step > 64 ? w : even;
        roundIs("NEAREST, in the middle the even one", m, x, NEAREST, nearest);
        roundIs("NEAREST below 0", -m, x, NEAREST, minus + nearest);
        roundIs("CUT: v", m, x, CUT, v);
        roundIs("CUT below 0: v", -m, x, CUT, minus + v);
        roundIs("UP: w", m, x, UP, w);
        roundIs("UP below 0 changes places with DOWN", -m, x, UP, minus + v);
        roundIs("DOWN: v", m, x, DOWN, v);
        roundIs("DOWN below 0 changes places with UP", -m, x, DOWN, minus + w);
        roundIs("ODD", m, x, ODD, odd);
        roundIs("ODD below 0", -m, x, ODD, minus + odd);
    }

    private static void nearNought() {
        int least = 1 - make.bias - make.f;
        roundIs("the least one", 1, least, NEAREST, 1);
        roundIs("half the least one: 0 has the even CODE", 1, least - 1, NEAREST, 0);
        roundIs("half the least one below 0: 0 with its sign", -1, least - 1, NEAREST, make.sign);
        roundIs("more than half the least one", 65537, least - 17, NEAREST, 1);
        roundIs("less than half the least one", 65535, least - 17, NEAREST, 0);
        int[] small = {1, 3, 100000};
        for (int m : small) {
            roundIs("as small as can be told, NEAREST", m, -60, NEAREST, 0);
            roundIs("as small as can be told, CUT", m, -60, CUT, 0);
            roundIs("as small as can be told, UP", m, -60, UP, 1);
            roundIs("as small as can be told, DOWN", m, -60, DOWN, 0);
            roundIs("as small as can be told, ODD", m, -60, ODD, 1);
            roundIs("as small as can be told below 0, NEAREST", -m, -60, NEAREST, make.sign);
            roundIs("as small as can be told below 0, UP", -m, -60, UP, make.sign);
            roundIs("as small as can be told below 0, DOWN", -m, -60, DOWN, make.sign + 1);
            roundIs("as small as can be told below 0, ODD", -m, -60, ODD, make.sign + 1);
        }
    }

    private static void beyondTheGreatest() {
        // 2 to the (B and 1) is what would be NEXT of the greatest
        beyond("w of the greatest itself, which is no FLOAT", 1, make.bias + 1);
        beyond("above w", 3, make.bias + 1);
        beyond("as great as can be told", 100000, 60);
        beyond("in the middle of the greatest, whose CODE is odd, and w", 4 * make.zs - 1, make.bias - make.f - 1);
        beyond("above that middle", 65536 - (65536 / 4 / make.zs) + 1, make.bias - 15);
        int m = 65536 - (65536 / 4 / make.zs) - 1;
        roundIs("below that middle: the greatest", m, make.bias - 15, NEAREST, make.greatest);
        roundIs("below that middle, UP: ENDLESS", m, make.bias - 15, UP, make.endless);
        roundIs("below that middle, ODD: the greatest", m, make.bias - 15, ODD, make.greatest);
        roundIs("below that middle below 0", -m, make.bias - 15, NEAREST, make.sign + make.greatest);
    }

    private static void beyond(String sentence, int m, int x) {
        roundIs(sentence + ", NEAREST: ENDLESS", m, x, NEAREST, make.endless);
        roundIs(sentence + ", CUT: v", m, x, CUT, make.greatest);
        roundIs(sentence + ", UP: ENDLESS", m, x, UP, make.endless);
        roundIs(sentence + ", DOWN: v", m, x, DOWN, make.greatest);
        roundIs(sentence + ", ODD: v, for ENDLESS has an even CODE", m, x, ODD, make.greatest);
        roundIs(sentence + " below 0, NEAREST", -m, x, NEAREST, make.sign + make.endless);
        roundIs(sentence + " below 0, CUT", -m, x, CUT, make.sign + make.greatest);
        roundIs(sentence + " below 0, UP", -m, x, UP, make.sign + make.greatest);
        roundIs(sentence + " below 0, DOWN", -m, x, DOWN, make.sign + make.endless);
        roundIs(sentence + " below 0, ODD", -m, x, ODD, make.sign + make.greatest);
    }

    private static void noughtItself() {
        int[] powers = {-60, 0, 60};
        for (int x : powers) {
            for (int rounding = 0; rounding < 5; rounding++) {
                roundIs("0 has sign 0", 0, x, rounding, 0);
            }
        }
    }

    private static void functionIs(String sentence, int function, int code, int sort, int figures, int hard) {
        Due.is(make.named("8 " + sentence), make.x().sort(function, code), sort);
        Due.is(make.named("9 " + sentence), make.x().figures(function, code), figures);
        Due.is(make.named("10 " + sentence), make.x().hard(function, code), hard);
    }

    private static void rightIs(String sentence, int function, int code, int... wants) {
        for (int rounding = 0; rounding < wants.length; rounding++) {
            String text = make.named("7 " + sentence + ", ROUNDING " + rounding);
            Due.is(text, make.x().right(function, code, rounding), wants[rounding]);
        }
    }

    /** B and 1 is even, so that what would be NEXT of the greatest is a square. */
    private static void justBeyondByAFunction() {
        int root = make.code(make.bias + (make.bias + 1) / 2, 0);
        int g = make.greatest;
        int n = make.endless;
        functionIs("w of the greatest is no FLOAT's, so not EXACT, and has no t", 3, root, 3, -9, 0);
        rightIs("w of the greatest", 3, root, n, g, n, g, g);
        functionIs("the greatest squared: above w", 3, g, 3, -9, 0);
        rightIs("the greatest squared", 3, g, n, g, n, g, g);
        functionIs("the greatest cubed", 4, g, 3, -9, 0);
        rightIs("the greatest cubed", 4, g, n, g, n, g, g);
        int minus = make.sign;
        functionIs("the least PLAIN one cubed", 4, minus + g, 3, -9, 0);
        rightIs("the least PLAIN one cubed", 4, minus + g, minus + n, minus + g, minus + g, minus + n, minus + g);
        functionIs("1 is a FLOAT's, so EXACT: no FIGURES", 3, make.code(make.bias, 0), 1, -9, 0);
    }

    /** Half the least one is 2 to the -(B and F): a square if B and F are even together. */
    private static void halfTheLeastByAFunction() {
        int half = make.bias + make.f;
        if (half % 2 != 0) {
            return;
        }
        int p = make.bias - half / 2;
        int root = p >= 1 ? make.code(p, 0) : 1 << (half / 2 - 1);
        functionIs("in the middle of 0 and the least one: a TIE", 3, root, 2, 512, 9);
        rightIs("in the middle of 0 and the least one", 3, root, 0, 0, 1, 0, 1);
        functionIs("its opposite", 3, make.sign + root, 2, 512, 9);
    }

    /** Below 0: the opposite's, with the sign, UP and DOWN in each other's place; SQUARE has sign 0. */
    private static void opposites() {
        int[] functions = {0, 2, 3, 4};
        int one = make.code(make.bias, 0);
        int[] codes = {1, make.zs - 1, make.zs, one + 1, one + make.zs - 1, make.greatest};
        for (int function : functions) {
            for (int code : codes) {
                HardBench x = make.forCalls(16);
                int minus = function == 3 ? 0 : make.sign;
                int[] turned = {NEAREST, CUT, function == 3 ? UP : DOWN, function == 3 ? DOWN : UP, ODD};
                for (int rounding = 0; rounding < 5; rounding++) {
                    int want = minus + x.right(function, code, turned[rounding]);
                    int got = x.right(function, make.sign + code, rounding);
                    Due.is(make.named("7 below 0: function " + function + " at " + code), got, want);
                }
                Due.is(make.named("8 sign aside"), x.sort(function, make.sign + code), x.sort(function, code));
                Due.is(make.named("9 sign aside"), x.figures(function, make.sign + code), x.figures(function, code));
                Due.is(make.named("10 sign aside"), x.hard(function, make.sign + code), x.hard(function, code));
            }
        }
    }

    /** Every CODE has one HARDNESS and one sort; and the greatest HARDNESS has as many CODES as are told one by one. */
    private static void sumsOverAll() {
        for (int function = 0; function < 5; function++) {
            HardBench x = make.forCalls(30);
            int counted = 0;
            int greatest = 0;
            for (int hardness = 0; hardness <= 9; hardness++) {
                int here = x.count(function, hardness);
                counted += here;
                greatest = here > 0 ? hardness : greatest;
            }
            int sorted = 0;
            for (int sort = 0; sort <= 3; sort++) {
                sorted += x.all(function, sort);
            }
            Due.is(make.named("12 all CODES, function " + function), counted, make.codes);
            Due.is(make.named("13 all CODES, function " + function), sorted, make.codes);
            int many = x.count(function, greatest);
            Due.is(make.named("11 the first one's HARDNESS"), x.hard(function, x.hardest(function, 0)), greatest);
            Due.is(make.named("11 the last one's HARDNESS"), x.hard(function, x.hardest(function, many - 1)), greatest);
            Due.is(make.named("11 -9 behind the last one"), x.hardest(function, many), -9);
            Due.is(make.named("11 -9 before the first one"), x.hardest(function, -1), -9);
        }
    }

    private static void nearTheMiddle() {
        // the root of 511 by 512 is 511.49976 by 512: v is odd, and the even w is not taken
        functionIs("just below the middle: neither", 1, make.code(14, 255), 3, 511, 9);
        rightIs("just below the middle", 1, make.code(14, 255), make.code(14, 255), make.code(14, 255),
            make.code(15, 0), make.code(14, 255), make.code(14, 255));
        // 291 cubed is 23.5006 times 2 to the 20
        functionIs("just above the middle: neither", 4, make.code(9, 35), 3, 512, 9);
        rightIs("just above the middle", 4, make.code(9, 35), 24, 23, 24, 23, 23);
        // 1.5 squared is 2.25
        functionIs("a FLOAT's: EXACT", 3, make.code(15, 128), 1, -9, 0);
        // 1 and 1 by 256 squared is 1, 2 by 256 and 1 by 65536: a 256th of the way
        functionIs("a 256th of the way", 3, make.code(15, 1), 3, 4, 6);
        // 264 cubed is 280 and 97 by 128 times 2 to the 16
        functionIs("97 128ths of the way", 4, make.code(15, 8), 3, 776, 1);
        // 264 squared is 272.25 times 2 to the 8, 272 squared 289 times
        functionIs("a quarter of the way", 3, make.code(15, 8), 3, 256, 1);
        functionIs("a FLOAT's by its last figure: EXACT", 3, make.code(15, 16), 1, -9, 0);
    }

    private static void figuresAtTheirEnds() {
        // the least one squared is 2 to the -44, the least one 2 to the -22
        functionIs("all ten are 0, yet not EXACT", 3, 1, 3, 0, 9);
        rightIs("all ten are 0", 3, 1, 0, 0, 1, 0, 1);
        functionIs("all ten are 0, cubed below 0", 4, make.sign + 1, 3, 0, 9);
        rightIs("all ten are 0, cubed below 0", 4, make.sign + 1, make.sign, make.sign, make.sign,
            make.sign + 1, make.sign + 1);
        // 362 squared is 131044: less than 2 to the 17, so just below a half of and just below twice the least one
        functionIs("just below half the least one", 3, make.code(3, 106), 3, 511, 9);
        rightIs("just below half the least one", 3, make.code(3, 106), 0, 0, 1, 0, 1);
        functionIs("all ten are 1", 3, make.code(4, 106), 3, 1023, 9);
        rightIs("all ten are 1", 3, make.code(4, 106), 2, 1, 2, 1, 1);
    }

    private static void figuresAreCut() {
        // 1 by 1.125 is 14.2222 by 16: t is 2 by 9, which is 227.6 by 1024
        functionIs("the tenth figure is cut, not rounded", 0, make.code(3, 1), 3, 227, 1);
        // 1 by 1.875 is 8.5333 by 16: t is 8 by 15, which is 546.1 by 1024
        functionIs("above the middle", 0, make.code(3, 7), 3, 546, 3);
    }

    /** HARDNESS is told by figures two to ten alone: how far they are like the second. */
    private static void hardnessOfEach() {
        boolean[] seen = new boolean[10];
        for (int f = 1; f <= 8; f++) {
            make = new Bench(4, f);
            for (int function = 0; function < 5; function++) {
                for (int code = 0; code < make.codes; code++) {
                    HardBench x = make.forCalls(2);
                    int figures = x.figures(function, code);
                    int hard = x.hard(function, code);
                    int want = figures < 0 ? 0 : alike(figures);
                    seen[want] = true;
                    Due.holds(hard == want, () -> make.named("10 HARDNESS of FIGURES " + figures + " is " + want));
                }
            }
        }
        for (int hardness = 0; hardness <= 9; hardness++) {
            Due.holds("10 a HARDNESS of " + hardness + " was seen", seen[hardness]);
        }
    }

    private static int alike(int figures) {
        int behindTheFirst = figures % 512;
        int fromTheSecondOn = behindTheFirst < 256 ? behindTheFirst : 511 - behindTheFirst;
        int alike = 9;
        while (fromTheSecondOn > 0) {
            fromTheSecondOn /= 2;
            alike--;
        }
        return alike;
    }
}
