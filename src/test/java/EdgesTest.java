/**
 * Each REFUSAL by hand, promise by promise in the order in which it tells them: the last number that is refused,
 * the first that is not and what is answered there, and which comes first where two fit.
 */
public final class EdgesTest {
    private static final int TOLD = 1000000000;
    private static final int LOW = Integer.MIN_VALUE;
    private static final int HIGH = Integer.MAX_VALUE;

    private EdgesTest() {
    }

    public static void main(String[] args) {
        make();
        about();
        next();
        between();
        round();
        right();
        sort();
        figures();
        hard();
        hardest();
        count();
        all();
        spans();
        span();
        table();
        part();
        look();
        fitsNobody();
        fitsBelowAndRoom();
        status();
        Due.end();
    }

    private static void refusals(HardBench x, int... wants) {
        for (int k = 0; k < wants.length; k++) {
            Due.is("20 REFUSALS -" + (k + 1), x.status(11 + k), wants[k]);
        }
    }

    private static void make() {
        HardBench x = new HardBench();
        Due.is("2 -4: E 1", x.make(1, 1), -4);
        Due.is("2 E 2", x.make(2, 1), 16);
        Due.is("2 -4: F 0", x.make(2, 0), -4);
        Due.is("2 F 1", x.make(3, 1), 32);
        Due.is("2 -6: E 6", x.make(6, 8), -6);
        Due.is("2 E 5", x.make(5, 8), 16384);
        Due.is("2 -6: F 9", x.make(5, 9), -6);
        Due.is("2 F 8", x.make(4, 8), 8192);
        Due.is("2 -4 before -6: E", x.make(1, 9), -4);
        Due.is("2 -4 before -6: F", x.make(6, 0), -4);
        Due.is("2 far below", x.make(LOW, 1), -4);
        Due.is("2 far above", x.make(2, HIGH), -6);
        refusals(x, 0, 0, 0, 5, 0, 3);
        Due.is("2 refused: E stays", x.status(0), 4);
        Due.is("2 refused: F stays", x.status(1), 8);
    }

    private static void about() {
        HardBench x = new HardBench();
        Due.is("3 -1: CODE -1", x.about(-1, 0), TOLD + 1);
        Due.is("3 CODE 0", x.about(0, 0), 1);
        Due.is("3 -1: CODE 128", x.about(128, 0), TOLD + 1);
        Due.is("3 CODE 127", x.about(127, 0), 3);
        Due.is("3 -2: what -1", x.about(24, -1), TOLD + 2);
        Due.is("3 what 0", x.about(24, 0), 0);
        Due.is("3 -2: what 6", x.about(24, 6), TOLD + 2);
        Due.is("3 what 5", x.about(24, 5), 0);
        Due.is("3 -3: M of ENDLESS", x.about(56, 4), TOLD + 3);
        Due.is("3 M of the greatest PLAIN one", x.about(55, 4), 15);
        Due.is("3 -3: X of ENDLESS", x.about(56, 5), TOLD + 3);
        Due.is("3 X of the greatest PLAIN one", x.about(55, 5), 0);
        Due.is("3 -3: M of ENDLESS below 0", x.about(120, 4), TOLD + 3);
        Due.is("3 M of the least PLAIN one", x.about(119, 4), 15);
        Due.is("3 -3: X of NONE", x.about(127, 5), TOLD + 3);
        Due.is("3 no -3: what 3 of ENDLESS", x.about(56, 3), 0);
        Due.is("3 no -3: what 3 of NONE", x.about(127, 3), 7);
        Due.is("3 -1 before -2", x.about(128, 6), TOLD + 1);
        Due.is("3 -2 before -3", x.about(56, 6), TOLD + 2);
        refusals(x, 3, 3, 4, 0, 0, 0);
    }

    private static void next() {
        HardBench x = new HardBench();
        Due.is("4 -1: CODE -1", x.next(-1), -1);
        Due.is("4 CODE 0", x.next(0), 1);
        Due.is("4 -1: CODE 128", x.next(128), -1);
        Due.is("4 CODE 127 is one, but not PLAIN", x.next(127), -3);
        Due.is("4 -3: ENDLESS", x.next(56), -3);
        Due.is("4 the greatest PLAIN one", x.next(55), 56);
        Due.is("4 -3: the last NONE with sign 0", x.next(63), -3);
        Due.is("4 0 with sign 1", x.next(64), 1);
        Due.is("4 -3: ENDLESS below 0", x.next(120), -3);
        Due.is("4 the least PLAIN one", x.next(119), 118);
        refusals(x, 2, 0, 4, 0, 0, 0);
    }

    private static void between() {
        HardBench x = new HardBench();
        Due.is("5 -1: CODE -1", x.between(-1, 0), -1);
        Due.is("5 -1: other -1", x.between(0, -1), -1);
        Due.is("5 CODES 0", x.between(0, 0), 0);
        Due.is("5 -1: CODE 128", x.between(128, 0), -1);
        Due.is("5 -1: other 128", x.between(0, 128), -1);
        Due.is("5 CODE 127 is one, but not PLAIN", x.between(127, 0), -3);
        Due.is("5 other 127 is one, but not PLAIN", x.between(0, 127), -3);
        Due.is("5 -3: ENDLESS", x.between(56, 55), -3);
        Due.is("5 -3: other ENDLESS", x.between(55, 56), -3);
        Due.is("5 the greatest PLAIN one", x.between(55, 53), 1);
        Due.is("5 -3: ENDLESS below 0", x.between(120, 119), -3);
        Due.is("5 -3: other ENDLESS below 0", x.between(119, 120), -3);
        Due.is("5 the least PLAIN one", x.between(119, 117), 1);
        Due.is("5 -1 before -3", x.between(56, 128), -1);
        Due.is("5 -1 before -3", x.between(-1, 56), -1);
        refusals(x, 6, 0, 6, 0, 0, 0);
    }

    private static void round() {
        HardBench x = new HardBench();
        Due.is("6 -1: ROUNDING -1", x.round(33, -5, -1), -1);
        Due.is("6 ROUNDING 0", x.round(33, -5, 0), 24);
        Due.is("6 -1: ROUNDING 5", x.round(33, -5, 5), -1);
        Due.is("6 ROUNDING 4", x.round(33, -5, 4), 25);
        Due.is("6 -4: M -100001", x.round(-100001, -16, 0), -4);
        Due.is("6 M -100000: 1.52588 below 0", x.round(-100000, -16, 0), 92);
        Due.is("6 -4: X -61", x.round(1, -61, 2), -4);
        Due.is("6 X -60", x.round(1, -60, 2), 1);
        Due.is("6 -6: M 100001", x.round(100001, -16, 0), -6);
        Due.is("6 M 100000", x.round(100000, -16, 0), 28);
        Due.is("6 -6: X 61", x.round(1, 61, 1), -6);
        Due.is("6 X 60", x.round(1, 60, 1), 55);
        Due.is("6 -4 of M 0 too", x.round(0, -61, 0), -4);
        Due.is("6 -6 of M 0 too", x.round(0, 61, 0), -6);
        Due.is("6 -1 before -4", x.round(-100001, 0, 5), -1);
        Due.is("6 -1 before -6", x.round(0, 61, -1), -1);
        Due.is("6 -4 before -6: X, M", x.round(100001, -61, 0), -4);
        Due.is("6 -4 before -6: M, X", x.round(-100001, 61, 0), -4);
        Due.is("6 far below", x.round(LOW, 0, 0), -4);
        Due.is("6 far above", x.round(0, HIGH, 0), -6);
        refusals(x, 4, 0, 0, 6, 0, 4);
    }

    private static void right() {
        HardBench x = new HardBench();
        Due.is("7 -1: function -1", x.right(-1, 25, 0), -1);
        Due.is("7 function 0", x.right(0, 25, 0), 22);
        Due.is("7 -1: function 5", x.right(5, 27, 0), -1);
        Due.is("7 function 4", x.right(4, 27, 0), 34);
        Due.is("7 -1: CODE -1", x.right(3, -1, 0), -1);
        Due.is("7 CODE 0", x.right(3, 0, 0), 0);
        Due.is("7 -1: CODE 128", x.right(3, 128, 0), -1);
        Due.is("7 CODE 127", x.right(3, 127, 0), 57);
        Due.is("7 -1: ROUNDING -1", x.right(0, 25, -1), -1);
        Due.is("7 -1: ROUNDING 5", x.right(0, 25, 5), -1);
        Due.is("7 ROUNDING 4", x.right(0, 25, 4), 23);
        Due.is("7 -1: no ROUNDING, though nothing is to be rounded", x.right(3, 24, 5), -1);
        refusals(x, 7, 0, 0, 0, 0, 0);
    }

    private static void sort() {
        HardBench x = new HardBench();
        Due.is("8 -1: function -1", x.sort(-1, 25), -1);
        Due.is("8 function 0", x.sort(0, 25), 3);
        Due.is("8 -1: function 5", x.sort(5, 28), -1);
        Due.is("8 function 4", x.sort(4, 28), 2);
        Due.is("8 -1: CODE -1", x.sort(1, -1), -1);
        Due.is("8 CODE 0", x.sort(1, 0), 1);
        Due.is("8 -1: CODE 128", x.sort(1, 128), -1);
        Due.is("8 CODE 127", x.sort(1, 127), 0);
        refusals(x, 4, 0, 0, 0, 0, 0);
    }

    private static void figures() {
        HardBench x = new HardBench();
        Due.is("9 -1: function -1", x.figures(-1, 25), -1);
        Due.is("9 function 0", x.figures(0, 25), 227);
        Due.is("9 -1: function 5", x.figures(5, 28), -1);
        Due.is("9 function 4: 1.5 cubed is 3.375, a TIE", x.figures(4, 28), 512);
        Due.is("9 -1: CODE -1", x.figures(1, -1), -1);
        Due.is("9 CODE 0", x.figures(1, 0), -9);
        Due.is("9 -1: CODE 128", x.figures(1, 128), -1);
        Due.is("9 CODE 127", x.figures(1, 127), -9);
        refusals(x, 4, 0, 0, 0, 0, 0);
    }

    private static void hard() {
        HardBench x = new HardBench();
        Due.is("10 -1: function -1", x.hard(-1, 25), -1);
        Due.is("10 function 0", x.hard(0, 25), 1);
        Due.is("10 -1: function 5", x.hard(5, 28), -1);
        Due.is("10 function 4", x.hard(4, 28), 9);
        Due.is("10 -1: CODE -1", x.hard(1, -1), -1);
        Due.is("10 CODE 0", x.hard(1, 0), 0);
        Due.is("10 -1: CODE 128", x.hard(1, 128), -1);
        Due.is("10 CODE 127", x.hard(1, 127), 0);
        refusals(x, 4, 0, 0, 0, 0, 0);
    }

    private static void hardest() {
        HardBench x = new HardBench();
        x.make(2, 1);
        // 1 by 1.5 is two thirds, by 3 one third: of 0.5 and 1, of 0 and 0.5 t is a third and two thirds, HARDNESS 1
        int[] codes = {3, 5, 11, 13};
        Due.is("11 -1: function -1", x.hardest(-1, 0), -1);
        Due.is("11 function 0", x.hardest(0, 0), 3);
        Due.is("11 -1: function 5", x.hardest(5, 0), -1);
        // of 0.5 cubed (0.125) t is a quarter; 1.5, 2 and 3 cubed are above the greatest
        Due.is("11 function 4", x.hardest(4, 0), 1);
        Due.is("11 -9: before the first one", x.hardest(0, -1), -9);
        for (int i = 0; i < codes.length; i++) {
            Due.is("11 by numbers " + i, x.hardest(0, i), codes[i]);
        }
        Due.is("11 -9: behind the last one", x.hardest(0, 4), -9);
        Due.is("11 -9: far behind", x.hardest(0, HIGH), -9);
        Due.is("11 -9: far before", x.hardest(0, LOW), -9);
        Due.is("11 -1 before -9", x.hardest(5, -1), -1);
        refusals(x, 3, 0, 0, 0, 0, 0);
    }

    private static void count() {
        HardBench x = new HardBench();
        Due.is("12 -1: function -1", x.count(-1, 0), -1);
        Due.is("12 -1: function 5", x.count(5, 0), -1);
        Due.is("12 -4: HARDNESS -1", x.count(3, -1), -4);
        Due.is("12 -6: HARDNESS 10", x.count(3, 10), -6);
        Due.is("12 -1 before -4", x.count(5, -1), -1);
        Due.is("12 -1 before -6", x.count(-1, 10), -1);
        x.make(2, 1);
        // of 0.5 squared (0.25) t is a half (HARDNESS 9), of 1.5 squared (2.25) a quarter (HARDNESS 1)
        Due.is("12 HARDNESS 0", x.count(3, 0), 12);
        Due.is("12 HARDNESS 1", x.count(3, 1), 2);
        Due.is("12 HARDNESS 2", x.count(3, 2), 0);
        Due.is("12 HARDNESS 9", x.count(3, 9), 2);
        Due.is("12 function 0", x.count(0, 1), 4);
        Due.is("12 function 4", x.count(4, 1), 2);
        refusals(x, 4, 0, 0, 1, 0, 1);
    }

    private static void all() {
        HardBench x = new HardBench();
        Due.is("13 -1: function -1", x.all(-1, 0), -1);
        Due.is("13 -1: function 5", x.all(5, 0), -1);
        Due.is("13 -2: sort -1", x.all(3, -1), -2);
        Due.is("13 -2: sort 4", x.all(3, 4), -2);
        Due.is("13 -1 before -2", x.all(5, 4), -1);
        x.make(2, 1);
        // with either sign: squares of 0 and 1 are EXACT, of 0.5 a TIE, of 1.5, 2 and 3 neither; two are none
        Due.is("13 sort 0", x.all(3, 0), 4);
        Due.is("13 sort 1", x.all(3, 1), 4);
        Due.is("13 sort 2", x.all(3, 2), 2);
        Due.is("13 sort 3", x.all(3, 3), 6);
        Due.is("13 function 0", x.all(0, 1), 6);
        Due.is("13 function 4: cubes of 0 and 1", x.all(4, 1), 4);
        refusals(x, 3, 2, 0, 0, 0, 0);
    }

    private static void spans() {
        HardBench x = new HardBench();
        x.make(2, 1);
        Due.is("14 -1: function -1", x.spans(-1, 0), -1);
        Due.is("14 function 0", x.spans(0, 0), 3);
        Due.is("14 -1: function 5", x.spans(5, 0), -1);
        // cubes: 0.125, 1, 3.375, 8, 27; the greatest PLAIN one is 3, its w 4: 0, 1, 3, and the rest ENDLESS
        Due.is("14 function 4", x.spans(4, 0), 4);
        Due.is("14 -1: ROUNDING -1", x.spans(4, -1), -1);
        Due.is("14 -1: ROUNDING 5", x.spans(4, 5), -1);
        // 0.5 (odd), 1, 3 (odd) for all the rest
        Due.is("14 ROUNDING 4", x.spans(4, 4), 3);
        refusals(x, 4, 0, 0, 0, 0, 0);
    }

    private static void span() {
        HardBench x = new HardBench();
        x.make(2, 1);
        Due.is("15 -1: function -1", x.span(-1, 0, 0, 0), -1);
        Due.is("15 function 0", x.span(0, 0, 0, 0), 1);
        Due.is("15 -1: function 5", x.span(5, 0, 0, 0), -1);
        Due.is("15 function 4", x.span(4, 0, 1, 2), 2);
        Due.is("15 -1: ROUNDING -1", x.span(4, -1, 0, 0), -1);
        Due.is("15 -1: ROUNDING 5", x.span(4, 5, 0, 0), -1);
        Due.is("15 ROUNDING 4", x.span(4, 4, 0, 2), 1);
        Due.is("15 -1: SPAN -1", x.span(4, 0, -1, 0), -1);
        Due.is("15 SPAN 0", x.span(4, 0, 0, 0), 1);
        Due.is("15 -1: SPAN 4 of 4", x.span(4, 0, 4, 0), -1);
        Due.is("15 SPAN 3 of 4", x.span(4, 0, 3, 0), 4);
        Due.is("15 -1: SPAN 3 of 3 with another ROUNDING", x.span(4, 4, 3, 0), -1);
        Due.is("15 -1: SPAN 3 of 3 of another function", x.span(0, 0, 3, 0), -1);
        Due.is("15 -2: what -1", x.span(4, 0, 3, -1), -2);
        Due.is("15 -2: what 3", x.span(4, 0, 3, 3), -2);
        Due.is("15 what 1", x.span(4, 0, 3, 1), 5);
        Due.is("15 what 2", x.span(4, 0, 3, 2), 6);
        Due.is("15 -1 before -2: SPAN", x.span(4, 0, 4, 3), -1);
        Due.is("15 -1 before -2: ROUNDING", x.span(4, 5, 0, 3), -1);
        Due.is("15 far behind", x.span(4, 0, HIGH, 0), -1);
        refusals(x, 11, 2, 0, 0, 0, 0);
    }

    private static void table() {
        HardBench x = new HardBench();
        Due.is("16 -1: function -1", x.table(-1, 0, 3, 0, 0), -1);
        Due.is("16 -1: function 5", x.table(5, 0, 3, 0, 0), -1);
        Due.is("16 -1: ROUNDING -1", x.table(0, -1, 3, 0, 0), -1);
        Due.is("16 -1: ROUNDING 5", x.table(0, 5, 3, 0, 0), -1);
        Due.is("16 -1: POWER 0", x.table(3, 0, 0, 0, 0), -1);
        Due.is("16 -1: POWER 7", x.table(3, 0, 7, 0, 0), -1);
        Due.is("16 -2: DEGREE -1", x.table(0, 0, 3, -1, 0), -2);
        Due.is("16 -2: DEGREE 2", x.table(0, 0, 3, 2, 0), -2);
        Due.is("16 -4: S -1", x.table(0, 0, 3, 0, -1), -4);
        Due.is("16 -6: S 11", x.table(0, 0, 3, 0, 11), -6);
        Due.is("16 -1 before -2", x.table(0, 0, 7, 2, 0), -1);
        Due.is("16 -1 before -4", x.table(0, 5, 3, 0, -1), -1);
        Due.is("16 -1 before -6", x.table(5, 0, 3, 0, 11), -1);
        Due.is("16 -2 before -4", x.table(0, 0, 3, 2, -1), -2);
        Due.is("16 -2 before -6", x.table(0, 0, 3, -1, 11), -2);
        refusals(x, 9, 4, 0, 1, 0, 1);
        Due.is("16 of refused ones no TABLE", x.status(3), 0);
        Due.is("16 function 0, ROUNDING 0, DEGREE 0, S 0", x.table(0, 0, 3, 0, 0), 7);
        Due.is("16 S 10", x.table(0, 0, 3, 0, 10), 7);
        Due.is("16 DEGREE 1", x.table(0, 0, 3, 1, 4), 2);
        // squares of 0.25 .. 0.46875 in 32nds: 2, 2.53, 3.125, 3.78, 4.5, 5.28, 6.125, 7.03
        Due.is("16 POWER 1", x.table(3, 0, 1, 0, 0), 6);
        Due.is("16 POWER 6", x.table(3, 0, 6, 0, 0), 1);
        Due.is("16 function 4, ROUNDING 4: cubes of 8 .. 15 are all above the greatest", x.table(4, 4, 6, 0, 0), 1);
        Due.is("16 and of v, w that one is odd", x.look(0), 55);
    }

    private static void part() {
        HardBench x = new HardBench();
        Due.is("17 -3: no TABLE", x.part(0, 0), TOLD + 3);
        Due.is("17 -3 before -1", x.part(-1, 0), TOLD + 3);
        Due.is("17 -3 before -2", x.part(0, 4), TOLD + 3);
        x.table(0, 0, 3, 1, 4);
        Due.is("17 -1: PART -1", x.part(-1, 0), TOLD + 1);
        Due.is("17 PART 0", x.part(0, 0), 0);
        Due.is("17 -1: PART 2 of 2", x.part(2, 0), TOLD + 1);
        Due.is("17 PART 1 of 2", x.part(1, 1), 7);
        Due.is("17 -2: what -1", x.part(0, -1), TOLD + 2);
        Due.is("17 -2: what 4", x.part(0, 4), TOLD + 2);
        Due.is("17 what 3", x.part(0, 3), -17);
        Due.is("17 -1 before -2", x.part(2, 4), TOLD + 1);
        x.table(3, 0, 6, 1, 0);
        Due.is("17 -1: PART 1 of the latest, which has one", x.part(1, 0), TOLD + 1);
        Due.is("17 PART 0 of the latest", x.part(0, 1), 7);
        refusals(x, 4, 2, 3, 0, 0, 0);
    }

    private static void look() {
        HardBench x = new HardBench();
        Due.is("18 -3: no TABLE", x.look(0), -3);
        Due.is("18 -3 before -1", x.look(-1), -3);
        Due.is("18 -3 before -1", x.look(8), -3);
        x.table(0, 0, 3, 1, 4);
        Due.is("18 -1: z -1", x.look(-1), -1);
        Due.is("18 z 0", x.look(0), 24);
        Due.is("18 -1: z 8", x.look(8), -1);
        Due.is("18 z 7", x.look(7), 17);
        x.make(2, 1);
        Due.is("18 -3: the TABLE is gone with its MAKE", x.look(0), -3);
        x.table(3, 0, 1, 0, 0);
        Due.is("18 -1: z 2", x.look(2), -1);
        Due.is("18 z 1: 1.5 squared is 2.25", x.look(1), 4);
        refusals(x, 3, 0, 4, 0, 0, 0);
    }

    private static void fitsNobody() {
        HardBench x = new HardBench();
        Due.is("19 -1: function -1", x.fits(-1, 0, 3, 0, 0, 24, 0, 0), -1);
        Due.is("19 function 0", x.fits(0, 0, 3, 0, 0, 24, 0, 0), -9);
        Due.is("19 -1: function 5", x.fits(5, 0, 3, 0, 0, 24, 0, 0), -1);
        Due.is("19 function 4", x.fits(4, 0, 3, 0, 0, 24, 0, 0), -9);
        Due.is("19 -1: ROUNDING -1", x.fits(0, -1, 3, 1, 1, 22, 0, 0), -1);
        Due.is("19 ROUNDING 0", x.fits(0, 0, 3, 1, 1, 22, 0, 0), -9);
        Due.is("19 -1: ROUNDING 5", x.fits(0, 5, 3, 1, 1, 23, 0, 0), -1);
        Due.is("19 ROUNDING 4", x.fits(0, 4, 3, 1, 1, 23, 0, 0), -9);
        Due.is("19 -1: POWER 0", x.fits(3, 0, 0, 0, 0, 2, 0, 0), -1);
        Due.is("19 POWER 1", x.fits(3, 0, 1, 0, 0, 2, 0, 0), -9);
        Due.is("19 -1: POWER 7", x.fits(3, 0, 7, 0, 7, 56, 0, 0), -1);
        Due.is("19 POWER 6", x.fits(3, 0, 6, 0, 7, 56, 0, 0), -9);
        Due.is("19 -1: from -1", x.fits(3, 0, 6, -1, 0, 56, 0, 0), -1);
        Due.is("19 from 0", x.fits(3, 0, 6, 0, 0, 56, 0, 0), -9);
        Due.is("19 -1: from 8", x.fits(3, 0, 6, 8, 8, 56, 0, 0), -1);
        Due.is("19 from 7 to 7", x.fits(3, 0, 6, 7, 7, 56, 0, 0), -9);
        Due.is("19 -1: to 8", x.fits(3, 0, 6, 0, 8, 56, 0, 0), -1);
        Due.is("19 -1: to -1", x.fits(3, 0, 6, -1, -1, 56, 0, 0), -1);
        Due.is("19 -1: from behind to", x.fits(3, 0, 6, 7, 6, 56, 0, 0), -1);
        Due.is("19 -1 before -4: z", x.fits(3, 0, 6, 0, 8, -1000000001, 0, 0), -1);
        Due.is("19 -1 before -4: from behind to", x.fits(3, 0, 6, 7, 6, 0, -1000000001, 0), -1);
        Due.is("19 -1 before -6: POWER", x.fits(3, 0, 7, 0, 0, 0, 0, 11), -1);
        refusals(x, 14, 0, 0, 0, 0, 0);
    }

    private static void fitsBelowAndRoom() {
        HardBench x = new HardBench();
        int end = 1000000000;
        Due.is("19 -4: a", x.fits(3, 0, 6, 0, 0, -end - 1, 0, 0), -4);
        Due.is("19 the least a", x.fits(3, 0, 6, 0, 0, -end, 0, 0), 0);
        Due.is("19 -4: b", x.fits(3, 0, 6, 0, 7, 56, -end - 1, 0), -4);
        Due.is("19 the least b fits z 0 alone", x.fits(3, 0, 6, 0, 7, 56, -end, 0), 1);
        Due.is("19 -4: S -1", x.fits(3, 0, 6, 0, 7, 56, 0, -1), -4);
        Due.is("19 S 0", x.fits(3, 0, 6, 0, 7, 56, 0, 0), -9);
        Due.is("19 -6: a", x.fits(3, 0, 6, 0, 0, end + 1, 0, 0), -6);
        Due.is("19 the greatest a", x.fits(3, 0, 6, 0, 0, end, 0, 0), 0);
        Due.is("19 -6: b", x.fits(3, 0, 6, 0, 7, 56, end + 1, 0), -6);
        Due.is("19 the greatest b fits z 0 alone", x.fits(3, 0, 6, 0, 7, 56, end, 0), 1);
        Due.is("19 -6: S 11", x.fits(3, 0, 6, 0, 7, 56 << 10, 0, 11), -6);
        Due.is("19 S 10", x.fits(3, 0, 6, 0, 7, 56 << 10, 0, 10), -9);
        Due.is("19 -4 before -6: b, a", x.fits(3, 0, 6, 0, 7, end + 1, -end - 1, 0), -4);
        Due.is("19 -4 before -6: a, S", x.fits(3, 0, 6, 0, 7, -end - 1, 0, 11), -4);
        Due.is("19 -4 before -6: S, b", x.fits(3, 0, 6, 0, 7, 0, end + 1, -1), -4);
        Due.is("19 far below", x.fits(3, 0, 6, 0, 7, LOW, 0, 0), -4);
        Due.is("19 far above", x.fits(3, 0, 6, 0, 7, 0, HIGH, 0), -6);
        refusals(x, 0, 0, 0, 7, 0, 4);
    }

    private static void status() {
        HardBench x = new HardBench();
        int[] others = {LOW, -9, -1, 5, 6, 10, 17, 18, 1000000000, HIGH};
        for (int what : others) {
            Due.is("20 -9: what " + what, x.status(what), -9);
        }
        Due.is("20 what 0", x.status(0), 3);
        Due.is("20 what 4", x.status(4), 0);
        Due.is("20 what 11", x.status(11), 0);
        Due.is("20 what 16", x.status(16), 0);
        refusals(x, 0, 0, 0, 0, 0, 0);
    }
}
