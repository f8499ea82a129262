/**
 * The sentences of the document's "Terms" that name a boundary, each at the boundary, for all 32 MAKES:
 * MAKE, CODES, PLAIN, NEXT, FUNCTIONS (promises 2 to 5, 7, 8). The number in front is the promise's that shows it.
 */
public final class TermsTest {
    private static Bench make;

    private TermsTest() {
    }

    public static void main(String[] args) {
        for (int e = 2; e <= 5; e++) {
            for (int f = 1; f <= 8; f++) {
                make = new Bench(e, f);
                lookAtMake();
            }
        }
        newObject();
        Due.end();
    }

    private static void lookAtMake() {
        codes();
        signAndBits();
        powerNought();
        powersBetween();
        powerOfAllOnes();
        plain();
        next();
        between();
        atNought();
        atEndless();
        atNone();
        rootBelowNought();
        atOne();
        noTableOfANewMake();
    }

    private static void is(String sentence, long got, long want) {
        Due.is(make.named(sentence), got, want);
    }

    private static void aboutIs(String sentence, int code, int... wants) {
        for (int what = 0; what < wants.length; what++) {
            is(sentence + ", what " + what, make.x().about(code, what), wants[what]);
        }
    }

    private static void codes() {
        int all = 1 << (1 + make.e + make.f);
        is("2 how many CODES", new HardBench().make(make.e, make.f), all);
        is("20 how many CODES", make.x().status(2), all);
        is("3 the first CODE is 0", make.x().about(0, 0), 1);
        is("3 below it there is none", make.x().about(-1, 0), 1000000001);
        is("3 the last CODE is 2 to the (1 and E and F) less 1", make.x().about(all - 1, 0), 3);
        is("3 above it there is none", make.x().about(all, 0), 1000000001);
    }

    private static void signAndBits() {
        int ones = (1 << make.e) - 1;
        int figures = (1 << make.f) - 1;
        aboutIs("3 the highest bit is the sign: the last CODE without it", make.sign - 1, 3, 0, ones, figures);
        aboutIs("3 the highest bit is the sign: the first CODE with it", make.sign, 1, 1, 0, 0);
        aboutIs("3 the highest bit is the sign: the last CODE", make.codes - 1, 3, 1, ones, figures);
        aboutIs("3 then p, then q: the last q", figures, 0, 0, 0, figures);
        aboutIs("3 then p, then q: the next p", figures + 1, 0, 0, 1, 0);
    }

    private static void powerNought() {
        int least = 1 - make.bias - make.f;
        int most = make.zs - 1;
        aboutIs("3 0: M 0, X 0", 0, 1, 0, 0, 0, 0, 0);
        aboutIs("3 0 with sign 1 too", make.sign, 1, 1, 0, 0, 0, 0);
        aboutIs("3 p 0, q 1: the least one", 1, 0, 0, 0, 1, 1, least);
        aboutIs("3 p 0, q 1, sign 1", make.sign + 1, 0, 1, 0, 1, 1, least);
        aboutIs("3 p 0, all of q: no 2 to the F in it", most, 0, 0, 0, most, most, least);
    }

    private static void powersBetween() {
        int last = (1 << make.e) - 2;
        int most = make.zs - 1;
        aboutIs("3 p 1, q 0: 2 to the F", make.code(1, 0), 0, 0, 1, 0, 1, 1 - make.bias);
        int x = 1 - make.bias - make.f;
        aboutIs("3 p 1, q 1", make.code(1, 1), 0, 0, 1, 1, make.zs + 1, x);
        int greatestX = last - make.bias - make.f;
        int greatestM = 2 * make.zs - 1;
        aboutIs("3 p all bits but the last, all of q", make.greatest, 0, 0, last, most, greatestM, greatestX);
        aboutIs("3 and below 0", make.sign + make.greatest, 0, 1, last, most, greatestM, greatestX);
        aboutIs("3 p all bits but the last, q 0", make.code(last, 0), 0, 0, last, 0, 1, make.bias);
        aboutIs("3 1 is p B, q 0", make.code(make.bias, 0), 0, 0, make.bias, 0, 1, 0);
    }

    private static void powerOfAllOnes() {
        int ones = (1 << make.e) - 1;
        is("3 the CODE behind the greatest PLAIN one has p all ones, q 0", make.greatest + 1, make.code(ones, 0));
        aboutIs("3 ENDLESS if q is 0", make.code(ones, 0), 2, 0, ones, 0);
        aboutIs("3 ENDLESS below 0", make.sign + make.code(ones, 0), 2, 1, ones, 0);
        for (int q = 1; q < make.zs; q++) {
            aboutIs("3 else NONE, q " + q, make.code(ones, q), 3, 0, ones, q);
            aboutIs("3 else NONE with sign 1, q " + q, make.sign + make.code(ones, q), 3, 1, ones, q);
        }
    }

    /** What is not PLAIN is refused by next; what is, is not. */
    private static void plain() {
        for (int code = 0; code < make.codes; code++) {
            int answer = make.x().next(code);
            int here = code;
            boolean isPlain = code % make.sign < make.endless;
            Due.holds(isPlain == (answer != -3), () -> make.named("4 PLAIN or not: CODE " + here));
        }
    }

    private static void next() {
        is("4 of 0: the least one above 0", make.x().next(0), 1);
        is("4 of 0 with sign 1: the least one above 0", make.x().next(make.sign), 1);
        is("4 of the greatest one below 0: 0 with sign 0", make.x().next(make.sign + 1), 0);
        is("4 of the one below that: the greatest one below 0", make.x().next(make.sign + 2), make.sign + 1);
        is("4 of the greatest PLAIN one: ENDLESS", make.x().next(make.greatest), make.endless);
        is("4 of the one below that: the greatest PLAIN one", make.x().next(make.greatest - 1), make.greatest);
        is("4 of the least PLAIN one", make.x().next(make.sign + make.greatest), make.sign + make.greatest - 1);
        is("4 from p 0 to p 1", make.x().next(make.zs - 1), make.zs);
        is("4 from p 1 to p 0 below 0", make.x().next(make.sign + make.zs), make.sign + make.zs - 1);
    }

    private static void between() {
        int least = 1;
        int leastBelow = make.sign + 1;
        is("5 0 counts once", make.x().between(least, leastBelow), 1);
        is("5 0 counts once, told the other way", make.x().between(leastBelow, least), 1);
        is("5 both 0: none", make.x().between(0, make.sign), 0);
        is("5 both 0: none", make.x().between(make.sign, 0), 0);
        is("5 both 0 with sign 1: none", make.x().between(make.sign, make.sign), 0);
        is("5 they are one: none", make.x().between(make.greatest, make.greatest), 0);
        is("5 they are one below 0: none", make.x().between(leastBelow, leastBelow), 0);
        is("5 0 and the least one: none", make.x().between(0, least), 0);
        is("5 0 with sign 1 and the least one: none", make.x().between(make.sign, least), 0);
        is("5 0 and the greatest one below it: none", make.x().between(0, leastBelow), 0);
        is("5 0 with sign 1 and the greatest one below it: none", make.x().between(make.sign, leastBelow), 0);
        is("5 0 itself does not lie between", make.x().between(0, 2), 1);
        is("5 0 itself does not lie between", make.x().between(make.sign, make.sign + 2), 1);
        int lowest = make.sign + make.greatest;
        is("5 the least PLAIN one and the greatest", make.x().between(lowest, make.greatest), 2 * make.greatest - 1);
        is("5 told the other way", make.x().between(make.greatest, lowest), 2 * make.greatest - 1);
        is("5 0 and the greatest", make.x().between(0, make.greatest), make.greatest - 1);
    }

    /** The RIGHT result with each ROUNDING, where nothing is to be rounded. */
    private static void rightIs(String sentence, int function, int code, int want) {
        for (int rounding = 0; rounding < 5; rounding++) {
            is(sentence + ", ROUNDING " + rounding, make.x().right(function, code, rounding), want);
        }
    }

    /** Of a VALUE that is no real number: no sort, FIGURES, HARDNESS. */
    private static void isNoReal(String sentence, int function, int code) {
        is("8 " + sentence, make.x().sort(function, code), 0);
        is("9 " + sentence, make.x().figures(function, code), -9);
        is("10 " + sentence, make.x().hard(function, code), 0);
    }

    private static void isExact(String sentence, int function, int code) {
        is("8 " + sentence, make.x().sort(function, code), 1);
        is("9 " + sentence, make.x().figures(function, code), -9);
        is("10 " + sentence, make.x().hard(function, code), 0);
    }

    private static void atNought() {
        int minus = make.sign;
        rightIs("7 OVER at 0: ENDLESS", 0, 0, make.endless);
        rightIs("7 OVER at 0: with x's sign", 0, minus, minus + make.endless);
        isNoReal("OVER at 0", 0, 0);
        isNoReal("OVER at 0 with sign 1", 0, minus);
        for (int function = 1; function < 5; function++) {
            rightIs("7 at 0: 0, function " + function, function, 0, 0);
            rightIs("7 at 0: with x's sign (SQUARE: sign 0), function " + function, function, minus,
                function == 3 ? 0 : minus);
            isExact("0 is a FLOAT's, function " + function, function, 0);
            isExact("0 is a FLOAT's, sign 1, function " + function, function, minus);
        }
    }

    private static void atEndless() {
        int minus = make.sign + make.endless;
        rightIs("7 OVER at ENDLESS: 0", 0, make.endless, 0);
        rightIs("7 OVER at ENDLESS: with x's sign", 0, minus, make.sign);
        rightIs("7 ROOT at ENDLESS: ENDLESS", 1, make.endless, make.endless);
        rightIs("7 ROOT at ENDLESS below 0: NONE", 1, minus, make.endless + 1);
        int[] others = {2, 3, 4};
        for (int function : others) {
            rightIs("7 others at ENDLESS: ENDLESS, function " + function, function, make.endless, make.endless);
            rightIs("7 others at ENDLESS: with x's sign (SQUARE: sign 0), function " + function, function, minus,
                function == 3 ? make.endless : minus);
        }
        for (int function = 0; function < 5; function++) {
            isNoReal("ENDLESS, function " + function, function, make.endless);
            isNoReal("ENDLESS below 0, function " + function, function, minus);
        }
    }

    private static void atNone() {
        int[] nones = {make.endless + 1, make.sign - 1, make.sign + make.endless + 1, make.codes - 1};
        for (int function = 0; function < 5; function++) {
            for (int none : nones) {
                rightIs("7 at NONE: NONE with sign 0, q 1, function " + function, function, none, make.endless + 1);
                isNoReal("NONE, function " + function, function, none);
            }
        }
    }

    private static void rootBelowNought() {
        int[] below = {make.sign + 1, make.sign + make.code(make.bias, 0), make.sign + make.greatest};
        for (int code : below) {
            rightIs("7 ROOT below 0: NONE", 1, code, make.endless + 1);
            isNoReal("ROOT below 0", 1, code);
        }
        rightIs("7 ROOT of 0 with sign 1 is none of them", 1, make.sign, make.sign);
        Due.holds(make.named("7 ROOT of the least one above 0"), make.x().right(1, 1, 1) < make.endless);
        is("7 THIRD below 0 is a number", make.x().about(make.x().right(2, make.sign + 1, 1), 1), 1);
    }

    private static void atOne() {
        int one = make.code(make.bias, 0);
        for (int function = 0; function < 5; function++) {
            rightIs("7 at 1: 1, whatever the ROUNDING, function " + function, function, one, one);
            isExact("1, function " + function, function, one);
            if (function != 1) {
                int want = function == 3 ? one : make.sign + one;
                rightIs("7 at 1 below 0, function " + function, function, make.sign + one, want);
                isExact("1 below 0, function " + function, function, make.sign + one);
            }
        }
    }

    private static void noTableOfANewMake() {
        HardBench x = new HardBench();
        x.table(0, 0, 1, 0, 0);
        x.make(make.e, make.f);
        is("2 no TABLE then: status 3", x.status(3), 0);
        is("2 no TABLE then: PARTS", x.status(4), 0);
        is("2 no TABLE then: part", x.part(0, 0), 1000000003);
        is("2 no TABLE then: look", x.look(0), -3);
        Due.holds(make.named("2 a TABLE of the new MAKE"), x.table(0, 0, 1, 0, 0) >= 1);
        is("2 a TABLE of the new MAKE", x.status(3), 1);
        is("2 the TABLE has all z of the new MAKE", x.part(x.status(4) - 1, 1), make.zs - 1);
        is("2 REFUSALS stay", x.status(13), 2);
        is("2 E", x.status(0), make.e);
        is("2 F", x.status(1), make.f);
    }

    /** Promise 1: all is as of the MAKE with E 3, F 3 that make tells. */
    private static void newObject() {
        make = new Bench(3, 3);
        HardBench x = new HardBench();
        int[] wants = {3, 3, 128, 0, 0};
        for (int what = 0; what < wants.length; what++) {
            is("1 status " + what, x.status(what), wants[what]);
        }
        for (int what = 11; what <= 16; what++) {
            is("1 no REFUSALS " + what, x.status(what), 0);
        }
        for (int function = 0; function < 5; function++) {
            for (int sort = 0; sort < 4; sort++) {
                is("1 all " + function + " " + sort, x.all(function, sort), make.x().all(function, sort));
            }
            is("1 spans " + function, x.spans(function, 0), make.x().spans(function, 0));
            is("1 hardest " + function, x.hardest(function, 0), make.x().hardest(function, 0));
        }
        is("1 the last CODE", x.about(127, 0), 3);
        is("1 no CODE behind it", x.about(128, 0), 1000000001);
        is("1 1 is 24", x.round(1, 0, 0), 24);
    }
}
