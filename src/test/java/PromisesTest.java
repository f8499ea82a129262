/** Each promise by hand: ordinary inputs, the edges that the document names, and wrong inputs. */
public final class PromisesTest {
    private static final int TOLD = 1000000000;

    private PromisesTest() {
    }

    public static void main(String[] args) {
        newObject();
        make();
        about();
        next();
        between();
        round();
        roundToEnds();
        right();
        rightAtEdges();
        sort();
        figuresAndHard();
        hardestCountAll();
        spans();
        table();
        partAndLook();
        fits();
        status();
        Due.end();
    }

    private static void newObject() {
        HardBench x = new HardBench();
        Due.is("1 E", x.status(0), 3);
        Due.is("1 F", x.status(1), 3);
        Due.is("1 CODES", x.status(2), 128);
        Due.is("1 TABLE", x.status(3), 0);
        Due.is("1 PARTS", x.status(4), 0);
        for (int what = 11; what <= 16; what++) {
            Due.is("1 REFUSALS " + what, x.status(what), 0);
        }
        Due.is("1 1 is 24", x.round(1, 0, 0), 24);
    }

    private static void make() {
        HardBench x = new HardBench();
        Due.is("2 least", x.make(2, 1), 16);
        Due.is("2 greatest", x.make(5, 8), 16384);
        Due.is("2 other", x.make(4, 2), 128);
        Due.is("2 same CODES, other bits", x.about(4, 2), 1);
        Due.is("2 e below", x.make(1, 3), -4);
        Due.is("2 f below", x.make(3, 0), -4);
        Due.is("2 e above", x.make(6, 3), -6);
        Due.is("2 f above", x.make(3, 9), -6);
        Due.is("2 below comes first", x.make(6, 0), -4);
        Due.is("2 below comes first", x.make(1, 9), -4);
        Due.is("2 far below", x.make(Integer.MIN_VALUE, Integer.MAX_VALUE), -4);
        Due.is("2 far above", x.make(Integer.MAX_VALUE, Integer.MAX_VALUE), -6);
        Due.is("2 refused: E", x.status(0), 4);
        Due.is("2 refused: F", x.status(1), 2);
        x.table(0, 0, 1, 0, 0);
        x.make(6, 2);
        Due.is("2 refused: TABLE stays", x.status(3), 1);
        x.make(4, 2);
        Due.is("2 the same MAKE: no TABLE", x.status(3), 0);
        Due.is("2 REFUSALS stay", x.status(16), 4);
    }

    private static void about() {
        HardBench x = new HardBench();
        int[][] rows = {
            {0, 1, 0, 0, 0, 0, 0}, {64, 1, 1, 0, 0, 0, 0}, {1, 0, 0, 0, 1, 1, -5}, {6, 0, 0, 0, 6, 3, -4},
            {7, 0, 0, 0, 7, 7, -5}, {8, 0, 0, 1, 0, 1, -2}, {24, 0, 0, 3, 0, 1, 0}, {25, 0, 0, 3, 1, 9, -3},
            {55, 0, 0, 6, 7, 15, 0}, {119, 0, 1, 6, 7, 15, 0}, {92, 0, 1, 3, 4, 3, -1}};
        for (int[] row : rows) {
            for (int what = 0; what <= 5; what++) {
                Due.is("3 about " + row[0] + " " + what, x.about(row[0], what), row[1 + what]);
            }
        }
        int[][] ends = {{56, 2, 0, 7, 0}, {120, 2, 1, 7, 0}, {57, 3, 0, 7, 1}, {127, 3, 1, 7, 7}};
        for (int[] row : ends) {
            for (int what = 0; what <= 3; what++) {
                Due.is("3 about " + row[0] + " " + what, x.about(row[0], what), row[1 + what]);
            }
            Due.is("3 no M of " + row[0], x.about(row[0], 4), TOLD + 3);
            Due.is("3 no X of " + row[0], x.about(row[0], 5), TOLD + 3);
        }
        Due.is("3 no such CODE", x.about(128, 0), TOLD + 1);
        Due.is("3 no such CODE", x.about(-1, 9), TOLD + 1);
        Due.is("3 no such what", x.about(57, 6), TOLD + 2);
        Due.is("3 no such what", x.about(0, -1), TOLD + 2);
        Due.is("3 -1s", x.status(11), 2);
        Due.is("3 -2s", x.status(12), 2);
        Due.is("3 -3s", x.status(13), 8);
    }

    private static void next() {
        HardBench x = new HardBench();
        int[][] rows = {{0, 1}, {64, 1}, {65, 0}, {66, 65}, {7, 8}, {55, 56}, {119, 118}, {72, 71}, {24, 25}};
        for (int[] row : rows) {
            Due.is("4 next " + row[0], x.next(row[0]), row[1]);
        }
        int[] ends = {56, 57, 120, 127};
        for (int code : ends) {
            Due.is("4 not PLAIN " + code, x.next(code), -3);
        }
        Due.is("4 no such CODE", x.next(-1), -1);
        Due.is("4 no such CODE", x.next(128), -1);
    }

    private static void between() {
        HardBench x = new HardBench();
        int[][] rows = {
            {5, 5, 0}, {0, 64, 0}, {64, 0, 0}, {64, 64, 0}, {0, 1, 0}, {64, 1, 0}, {65, 0, 0}, {65, 1, 1},
            {1, 65, 1}, {3, 7, 3}, {7, 3, 3}, {67, 71, 3}, {55, 119, 109}, {0, 55, 54}, {64, 119, 54}};
        for (int[] row : rows) {
            Due.is("5 between " + row[0] + " " + row[1], x.between(row[0], row[1]), row[2]);
        }
        Due.is("5 the first is not PLAIN", x.between(57, 0), -3);
        Due.is("5 the other is not PLAIN", x.between(0, 120), -3);
        Due.is("5 no CODE comes first", x.between(56, 128), -1);
        Due.is("5 no CODE comes first", x.between(-1, 56), -1);
    }

    private static void round() {
        HardBench x = new HardBench();
        // 33 by 32 lies between 24 and 25 a quarter up; 35 by 32 three quarters; 17 by 16 in the middle
        int[][] rows = {
            {33, -5, 24, 24, 25, 24, 25}, {-33, -5, 88, 88, 88, 89, 89}, {35, -5, 25, 24, 25, 24, 25},
            {17, -4, 24, 24, 25, 24, 25}, {19, -4, 26, 25, 26, 25, 25}, {-19, -4, 90, 89, 89, 90, 89},
            {9, -3, 25, 25, 25, 25, 25}, {-9, -3, 89, 89, 89, 89, 89}, {0, 60, 0, 0, 0, 0, 0},
            {1, -6, 0, 0, 1, 0, 1}, {3, -6, 2, 1, 2, 1, 1}, {-1, -60, 64, 64, 64, 65, 65},
            {1, -60, 0, 0, 1, 0, 1}, {15, -6, 8, 7, 8, 7, 7}};
        for (int[] row : rows) {
            for (int rounding = 0; rounding < 5; rounding++) {
                String call = "6 round " + row[0] + " " + row[1] + " " + rounding;
                Due.is(call, x.round(row[0], row[1], rounding), row[2 + rounding]);
            }
        }
    }

    private static void roundToEnds() {
        HardBench x = new HardBench();
        // the greatest PLAIN one is 15, w 16, the middle 15.5
        int[][] rows = {
            {61, -2, 55, 55, 56, 55, 55}, {31, -1, 56, 55, 56, 55, 55}, {1, 4, 56, 55, 56, 55, 55},
            {100000, 60, 56, 55, 56, 55, 55}, {-100000, 60, 120, 119, 119, 120, 119}};
        for (int[] row : rows) {
            for (int rounding = 0; rounding < 5; rounding++) {
                String call = "6 round " + row[0] + " " + row[1] + " " + rounding;
                Due.is(call, x.round(row[0], row[1], rounding), row[2 + rounding]);
            }
        }
        Due.is("6 no ROUNDING", x.round(-100001, 61, 5), -1);
        Due.is("6 no ROUNDING", x.round(0, 0, -1), -1);
        Due.is("6 M below", x.round(-100001, 61, 0), -4);
        Due.is("6 X below", x.round(100001, -61, 0), -4);
        Due.is("6 M above", x.round(100001, 0, 0), -6);
        Due.is("6 X above", x.round(0, 61, 0), -6);
        Due.is("6 M far below", x.round(Integer.MIN_VALUE, 0, 0), -4);
    }

    private static void right() {
        HardBench x = new HardBench();
        // function, CODE, and the five ROUNDINGS: 1 by 1.125 and by -1.125, root of 2, third of -3,
        // 1.375 squared and cubed with either sign, the least one squared and cubed, 15 cubed, 1 by the least one
        int[][] rows = {
            {0, 25, 22, 22, 23, 22, 23}, {0, 89, 86, 86, 86, 87, 87}, {1, 32, 27, 27, 28, 27, 27},
            {2, 100, 92, 91, 91, 92, 91}, {3, 27, 31, 31, 32, 31, 31}, {4, 27, 34, 34, 35, 34, 35},
            {4, 91, 98, 98, 98, 99, 99}, {3, 91, 31, 31, 32, 31, 31}, {3, 1, 0, 0, 1, 0, 1},
            {4, 65, 64, 64, 64, 65, 65}, {4, 55, 56, 55, 56, 55, 55}, {0, 1, 56, 55, 56, 55, 55}};
        for (int[] row : rows) {
            for (int rounding = 0; rounding < 5; rounding++) {
                String call = "7 right " + row[0] + " " + row[1] + " " + rounding;
                Due.is(call, x.right(row[0], row[1], rounding), row[2 + rounding]);
            }
        }
        Due.is("7 no function", x.right(-1, 0, 0), -1);
        Due.is("7 no function", x.right(5, 0, 0), -1);
        Due.is("7 no CODE", x.right(0, 128, 0), -1);
        Due.is("7 no CODE", x.right(0, -1, 0), -1);
        Due.is("7 no ROUNDING", x.right(0, 0, 5), -1);
        Due.is("7 no ROUNDING", x.right(0, 0, -1), -1);
        Due.is("7 REFUSALS", x.status(11), 6);
    }

    private static void rightAtEdges() {
        HardBench x = new HardBench();
        // at 0, -0, ENDLESS, -ENDLESS, NONE, another NONE below 0, -1
        int[] codes = {0, 64, 56, 120, 57, 127, 88};
        int[][] wants = {
            {56, 120, 0, 64, 57, 57, 88}, {0, 64, 56, 57, 57, 57, 57}, {0, 64, 56, 120, 57, 57, 88},
            {0, 0, 56, 56, 57, 57, 24}, {0, 64, 56, 120, 57, 57, 88}};
        int[][] sorts = {
            {0, 0, 0, 0, 0, 0, 1}, {1, 1, 0, 0, 0, 0, 0}, {1, 1, 0, 0, 0, 0, 1},
            {1, 1, 0, 0, 0, 0, 1}, {1, 1, 0, 0, 0, 0, 1}};
        for (int function = 0; function < 5; function++) {
            for (int k = 0; k < codes.length; k++) {
                for (int rounding = 0; rounding < 5; rounding++) {
                    String call = "7 right " + function + " " + codes[k] + " " + rounding;
                    Due.is(call, x.right(function, codes[k], rounding), wants[function][k]);
                }
                Due.is("8 sort " + function + " " + codes[k], x.sort(function, codes[k]), sorts[function][k]);
                Due.is("9 figures " + function + " " + codes[k], x.figures(function, codes[k]), -9);
                Due.is("10 hard " + function + " " + codes[k], x.hard(function, codes[k]), 0);
            }
        }
    }

    private static void sort() {
        HardBench x = new HardBench();
        // 1.25 squared (1.5625), 0.125 squared (half the least one) and 1.5 cubed (3.375) are TIES
        int[][] rows = {
            {3, 26, 2}, {3, 90, 2}, {3, 4, 2}, {3, 28, 1}, {1, 40, 1}, {1, 32, 3}, {0, 32, 1}, {0, 25, 3},
            {2, 48, 1}, {2, 112, 1}, {4, 36, 3}, {4, 55, 3}, {4, 28, 2}, {4, 92, 2}, {3, 25, 3}};
        for (int[] row : rows) {
            Due.is("8 sort " + row[0] + " " + row[1], x.sort(row[0], row[1]), row[2]);
        }
        x.make(2, 2);
        // the greatest PLAIN one is 3.5, and 2 squared is just its w, which is no FLOAT's
        Due.is("8 w of the greatest is not EXACT", x.sort(3, 8), 3);
        Due.is("8 it has no FIGURES", x.figures(3, 8), -9);
        Due.is("8 nor HARDNESS", x.hard(3, 8), 0);
        Due.is("8 it is rounded to ENDLESS", x.right(3, 8, 0), 12);
        Due.is("8 it is cut to the greatest", x.right(3, 8, 1), 11);
        Due.is("8 of v and w the greatest is odd", x.right(3, 8, 4), 11);
        Due.is("8 no function", x.sort(5, 0), -1);
        Due.is("8 no CODE", x.sort(0, 128), -1);
        Due.is("8 no CODE", x.sort(0, -1), -1);
    }

    private static void figuresAndHard() {
        HardBench x = new HardBench();
        // 1 by 1.125: 22.2 sixteenths of the way on: t is 2/9, by halves 0.0011100011
        Due.is("9 1 by 9", x.figures(0, 25), 227);
        Due.is("10 1 by 9", x.hard(0, 25), 1);
        Due.is("9 sign aside", x.figures(0, 89), 227);
        Due.is("9 a TIE", x.figures(3, 26), 512);
        Due.is("10 a TIE", x.hard(3, 26), 9);
        Due.is("9 EXACT", x.figures(3, 24), -9);
        Due.is("10 EXACT", x.hard(3, 24), 0);
        Due.is("9 from 0 on: 1 by 1024 is a 32nd of the least one", x.figures(3, 1), 32);
        Due.is("10 from 0 on", x.hard(3, 1), 3);
        Due.is("9 beyond the greatest", x.figures(3, 55), -9);
        Due.is("10 beyond the greatest", x.hard(3, 55), 0);
        Due.is("9 no function", x.figures(-1, 0), -1);
        Due.is("9 no CODE", x.figures(0, 128), -1);
        Due.is("10 no function", x.hard(5, 0), -1);
        Due.is("10 no CODE", x.hard(0, -1), -1);
        Due.is("10 REFUSALS", x.status(11), 4);
        x.make(5, 8);
        Due.is("9 root of 1 and a bit: t is just under a half", x.figures(1, 3841), 511);
        Due.is("10 all nine alike", x.hard(1, 3841), 9);
    }

    private static void hardestCountAll() {
        HardBench x = new HardBench();
        int counted = 0;
        int sorted = 0;
        for (int h = 0; h <= 9; h++) {
            counted += x.count(1, h);
        }
        for (int s = 0; s <= 3; s++) {
            sorted += x.all(1, s);
        }
        Due.is("12 every CODE has one HARDNESS", counted, 128);
        Due.is("13 every CODE has one sort", sorted, 128);
        Due.is("13 root EXACT", x.all(1, 1), 9);
        Due.is("13 square TIES", x.all(3, 2), 10);
        Due.is("11 first", x.hardest(1, 0), 9);
        Due.is("11 before the first", x.hardest(1, -1), -9);
        Due.is("11 not so many", x.hardest(1, 128), -9);
        Due.is("11 no function", x.hardest(-1, 0), -1);
        Due.is("12 no function comes first", x.count(5, -1), -1);
        Due.is("12 below", x.count(0, -1), -4);
        Due.is("12 above", x.count(0, 10), -6);
        Due.is("13 no function comes first", x.all(5, 4), -1);
        Due.is("13 no sort", x.all(0, 4), -2);
        Due.is("13 no sort", x.all(0, -1), -2);
        Due.is("11 -9 is no REFUSAL", x.status(11), 3);
        x.make(2, 1);
        Due.is("13 another MAKE", x.all(0, 0), 6);
        Due.is("12 another MAKE", x.count(0, 0), 12);
        // of a function that was asked before: roots of 0 (with either sign) and 1 alone are EXACT
        Due.is("13 another MAKE, the same function: NONE, ENDLESS, below 0", x.all(1, 0), 9);
        Due.is("13 another MAKE, the same function: EXACT", x.all(1, 1), 3);
        Due.is("12 another MAKE, the same function", x.count(1, 0), 12);
        x.make(3, 3);
        Due.is("11 the old MAKE again", x.hardest(1, 0), 9);
    }

    private static void spans() {
        HardBench x = new HardBench();
        x.make(2, 1);
        // 1 by 0.5, 1, 1.5, 2, 3: 2, 1, 2/3, 0.5, 1/3; 2/3 is nearer to 0.5, 1/3 too
        int[][] rows = {{1, 1, 4}, {2, 2, 2}, {3, 5, 1}};
        Due.is("14 spans", x.spans(0, 0), 3);
        for (int i = 0; i < 3; i++) {
            for (int what = 0; what < 3; what++) {
                Due.is("15 span " + i + " " + what, x.span(0, 0, i, what), rows[i][what]);
            }
        }
        Due.is("14 CUT", x.spans(0, 1), 4);
        Due.is("15 CUT: 1 by 3 is cut to 0", x.span(0, 1, 3, 2), 0);
        Due.is("14 no function", x.spans(5, 0), -1);
        Due.is("14 no ROUNDING", x.spans(0, -1), -1);
        Due.is("15 no function", x.span(-1, 0, 0, 0), -1);
        Due.is("15 no ROUNDING", x.span(0, 5, 0, 0), -1);
        Due.is("15 no SPAN comes first", x.span(0, 0, 3, 3), -1);
        Due.is("15 no SPAN", x.span(0, 0, -1, 0), -1);
        Due.is("15 no what", x.span(0, 0, 2, 3), -2);
        Due.is("15 no what", x.span(0, 0, 0, -1), -2);
        x.make(3, 3);
        // 1 by 1 .. 1.875 are seven results, so more than of the MAKE before
        Due.holds("14 another MAKE, the same function", x.spans(0, 0) > 7);
        Due.is("15 another MAKE, the same function", x.span(0, 0, 0, 2), 56);
        Due.is("15 another MAKE: the last CODE", x.span(1, 2, x.spans(1, 2) - 1, 1), 55);
    }

    private static void table() {
        HardBench x = new HardBench();
        Due.is("16 no function", x.table(5, 0, 1, 2, -1), -1);
        Due.is("16 no ROUNDING", x.table(0, 5, 1, 2, -1), -1);
        Due.is("16 POWER 0", x.table(0, 0, 0, 2, -1), -1);
        Due.is("16 POWER of all ones", x.table(0, 0, 7, 2, -1), -1);
        Due.is("16 DEGREE", x.table(0, 0, 1, 2, -1), -2);
        Due.is("16 DEGREE", x.table(0, 0, 1, -1, 11), -2);
        Due.is("16 S below", x.table(0, 0, 1, 0, -1), -4);
        Due.is("16 S above", x.table(0, 0, 1, 0, 11), -6);
        Due.is("16 none was made", x.status(3), 0);
        Due.is("16 DEGREE 0", x.table(0, 0, 3, 0, 0), 7);
        Due.is("16 DEGREE 0: a part of two", x.part(6, 1) - x.part(6, 0) + x.part(5, 1) - x.part(5, 0), 1);
        Due.is("16 DEGREE 1", x.table(0, 0, 3, 1, 4), 2);
        Due.is("16 a refused one", x.table(0, 0, 3, 1, 11), -6);
        Due.is("16 the latest stays", x.status(4), 2);
        Due.is("16 all ENDLESS", x.table(3, 0, 6, 1, 10), 1);
        Due.is("16 all ENDLESS: a", x.part(0, 2), 56 << 10);
        Due.is("16 all ENDLESS: b", x.part(0, 3), 0);
    }

    private static void partAndLook() {
        HardBench x = new HardBench();
        Due.is("17 no TABLE", x.part(0, 0), TOLD + 3);
        Due.is("17 no TABLE comes first", x.part(-1, 9), TOLD + 3);
        Due.is("18 no TABLE", x.look(-1), -3);
        x.table(0, 0, 3, 1, 4);
        // 1 by 1 .. 1.875 rounds to 24, 22, 21, 20, 19, 18, 17, 17
        int[] due = {24, 22, 21, 20, 19, 18, 17, 17};
        Due.is("17 first z", x.part(0, 0), 0);
        Due.is("17 a", x.part(0, 2), 384);
        Due.is("17 b", x.part(0, 3), -17);
        Due.is("17 one behind the other", x.part(1, 0), x.part(0, 1) + 1);
        Due.is("17 last z", x.part(1, 1), 7);
        for (int z = 0; z < 8; z++) {
            Due.is("18 look " + z, x.look(z), due[z]);
        }
        Due.is("18 no z", x.look(-1), -1);
        Due.is("18 no z", x.look(8), -1);
        Due.is("17 no PART comes first", x.part(2, 4), TOLD + 1);
        Due.is("17 no PART", x.part(-1, 0), TOLD + 1);
        Due.is("17 no what", x.part(0, 4), TOLD + 2);
        Due.is("17 no what", x.part(1, -1), TOLD + 2);
        x.table(4, 0, 3, 1, 0);
        Due.is("17 a may be below 0 and is told so", x.part(1, 2) + x.part(1, 3) * x.part(1, 0), x.look(x.part(1, 0)));
        x.make(3, 3);
        Due.is("17 no TABLE of a new MAKE", x.part(0, 0), TOLD + 3);
        Due.is("18 no TABLE of a new MAKE", x.look(0), -3);
    }

    private static void fits() {
        HardBench x = new HardBench();
        Due.is("19 fits", x.fits(0, 0, 3, 0, 0, 384, -17, 4), -9);
        Due.is("19 a misfit", x.fits(0, 0, 3, 0, 7, 384, -16, 4), 1);
        Due.is("19 from a later z on", x.fits(0, 0, 3, 1, 6, 23, -1, 0), -9);
        Due.is("19 the last one not", x.fits(0, 0, 3, 1, 7, 23, -1, 0), 7);
        Due.is("19 the first of several", x.fits(0, 0, 3, 0, 7, 24, -1, 0), 1);
        // 0.25 cubed is cut to 0
        Due.is("19 cut down: 15 16ths are 0", x.fits(4, 1, 1, 0, 0, 15, 0, 4), -9);
        Due.is("19 cut down: -1 16th is -1", x.fits(4, 1, 1, 0, 0, -1, 0, 4), 0);
        Due.is("19 the greatest a, b", x.fits(0, 0, 3, 7, 7, 1000000000, 1000000000, 0), 7);
        Due.is("19 the least a, b", x.fits(0, 0, 3, 7, 7, -1000000000, -1000000000, 10), 7);
        // 14 and 7 times 613566757 is 17 more than 2 to the 32
        Due.is("19 no wrapping", x.fits(0, 0, 3, 7, 7, 14, 613566757, 0), 7);
        Due.is("19 no function", x.fits(5, 0, 3, 0, 0, 0, 0, -1), -1);
        Due.is("19 no ROUNDING", x.fits(0, -1, 3, 0, 0, 0, 0, -1), -1);
        Due.is("19 no POWER", x.fits(0, 0, 7, 0, 0, 0, 0, -1), -1);
        Due.is("19 from below", x.fits(0, 0, 3, -1, 0, 0, 0, -1), -1);
        Due.is("19 to above", x.fits(0, 0, 3, 0, 8, 0, 0, -1), -1);
        Due.is("19 from behind to", x.fits(0, 0, 3, 3, 2, 0, 0, -1), -1);
        Due.is("19 a below", x.fits(0, 0, 3, 0, 0, -1000000001, 0, 11), -4);
        Due.is("19 b below", x.fits(0, 0, 3, 0, 0, 1000000001, -1000000001, 0), -4);
        Due.is("19 s below", x.fits(0, 0, 3, 0, 0, 1000000001, 0, -1), -4);
        Due.is("19 a above", x.fits(0, 0, 3, 0, 0, 1000000001, 0, 0), -6);
        Due.is("19 b above", x.fits(0, 0, 3, 0, 0, 0, 1000000001, 0), -6);
        Due.is("19 s above", x.fits(0, 0, 3, 0, 0, 0, 0, 11), -6);
        Due.is("19 makes no TABLE", x.status(3), 0);
        Due.is("19 -1s", x.status(11), 6);
        Due.is("19 -4s", x.status(14), 3);
        Due.is("19 -6s", x.status(16), 3);
    }

    private static void status() {
        HardBench x = new HardBench();
        int[] none = {-1, 5, 6, 9, 10, 17, Integer.MAX_VALUE, Integer.MIN_VALUE};
        for (int what : none) {
            Due.is("20 another what " + what, x.status(what), -9);
        }
        x.next(-1);
        x.all(0, 9);
        x.all(0, 9);
        x.next(56);
        x.make(0, 0);
        x.make(9, 9);
        x.make(9, 9);
        int[] wants = {1, 2, 1, 1, 0, 2};
        for (int k = 0; k < wants.length; k++) {
            Due.is("20 REFUSALS -" + (k + 1), x.status(11 + k), wants[k]);
        }
        x.make(5, 2);
        x.table(1, 0, 15, 1, 3);
        Due.is("20 E", x.status(0), 5);
        Due.is("20 F", x.status(1), 2);
        Due.is("20 CODES", x.status(2), 256);
        Due.is("20 TABLE", x.status(3), 1);
        Due.holds("20 PARTS", x.status(4) >= 1 && x.part(x.status(4) - 1, 1) == 3);
    }
}
