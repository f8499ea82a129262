/**
 * The sentences of SPAN, POWER, TABLE and PART at their boundaries (promises 14 to 20), over MAKES and by hand.
 * That no longer PART can be had is searched for in TableTest.
 */
public final class StretchesTest {
    private static final int TOLD = 1000000000;

    private static Bench make;

    private StretchesTest() {
    }

    public static void main(String[] args) {
        for (int e = 2; e <= 5; e++) {
            for (int f = 1; f <= 8; f++) {
                make = new Bench(e, f);
                ends();
                if (e + f <= 7) {
                    everySpan();
                }
                powers();
                tables();
            }
        }
        spansByHand();
        fullTable();
        wholeTable();
        latestTable();
        otherCallsLeaveTheTable();
        belowNought();
        leastSlopeAndStart();
        units();
        fitsAtItsEnds();
        Due.end();
    }

    private static void is(String sentence, long got, long want) {
        Due.is(make.named(sentence), got, want);
    }

    private static void ends() {
        for (int function = 0; function < 5; function++) {
            for (int rounding = 0; rounding < 5; rounding++) {
                HardBench x = make.forCalls(10);
                int spans = x.spans(function, rounding);
                is("15 0 is not in the first SPAN", x.span(function, rounding, 0, 0), 1);
                is("15 the greatest PLAIN one is the last", x.span(function, rounding, spans - 1, 1), make.greatest);
                is("15 the result at the first CODE", x.span(function, rounding, 0, 2), x.right(function, 1, rounding));
                int last = x.right(function, make.greatest, rounding);
                is("15 the result at the last CODE", x.span(function, rounding, spans - 1, 2), last);
                is("15 no SPAN behind the last", x.span(function, rounding, spans, 0), -1);
                is("15 no SPAN before the first", x.span(function, rounding, -1, 0), -1);
            }
        }
    }

    private static void everySpan() {
        for (int function = 0; function < 5; function++) {
            for (int rounding = 0; rounding < 5; rounding++) {
                int spans = make.x().spans(function, rounding);
                int code = 1;
                int before = -1;
                for (int i = 0; i < spans; i++) {
                    HardBench x = make.forCalls(3);
                    int result = x.span(function, rounding, i, 2);
                    int last = x.span(function, rounding, i, 1);
                    is("15 one behind the other: SPAN " + i, x.span(function, rounding, i, 0), code);
                    Due.holds(make.named("15 as many as can be: SPAN " + i), result != before);
                    Due.holds(make.named("15 at least one: SPAN " + i), last >= code);
                    for (; code <= last; code++) {
                        is("15 the same RIGHT result: CODE " + code, make.x().right(function, code, rounding), result);
                    }
                    before = result;
                }
                is("14 all PLAIN ones with sign 0 that are not 0", code, make.endless);
            }
        }
    }

    private static void spansByHand() {
        make = new Bench(2, 1);
        // 0.5, 1, 1.5, 2, 3 have the CODES 1 .. 5; w of 3 is 4
        // cut squares: 0.25, 1, 2.25, 4, 9
        int[][] cutSquares = {{1, 1, 0}, {2, 2, 2}, {3, 3, 4}, {4, 5, 5}};
        spansAre(3, 1, cutSquares);
        // roots to the nearest: 0.707, 1, 1.225 (nearer to 1), 1.414 (nearer to 1.5), 1.732
        int[][] roots = {{1, 1, 1}, {2, 3, 2}, {4, 5, 3}};
        spansAre(1, 0, roots);
        // cubes to the odd one: 0.125 to 0.5, 1, and 3.375, 8, 27 to 3, since ENDLESS is even
        int[][] oddCubes = {{1, 1, 1}, {2, 2, 2}, {3, 5, 5}};
        spansAre(4, 4, oddCubes);
        make = new Bench(3, 1);
        // 0.25 squared is 1 by 16, in the middle of 0 and the least one, 1 by 8
        is("15 many CODES with the result 0", make.x().span(3, 0, 0, 2), 0);
        is("15 up to 0.25, in the middle", make.x().span(3, 0, 0, 1), 2);
        int last = make.x().spans(3, 0) - 1;
        // the greatest is 12, w 16: 4 squared is w, 3 squared 9
        is("15 many CODES with the result ENDLESS", make.x().span(3, 0, last, 2), 14);
        is("15 from 4 on", make.x().span(3, 0, last, 0), 10);
        is("15 to the greatest", make.x().span(3, 0, last, 1), 13);
    }

    private static void spansAre(int function, int rounding, int[][] rows) {
        is("14 how many SPANS", make.x().spans(function, rounding), rows.length);
        for (int i = 0; i < rows.length; i++) {
            for (int what = 0; what < 3; what++) {
                is("15 SPAN " + i + " what " + what, make.x().span(function, rounding, i, what), rows[i][what]);
            }
        }
    }

    private static void powers() {
        int last = (1 << make.e) - 2;
        is("16 POWER 0 is none", make.x().table(1, 0, 0, 0, 0), -1);
        Due.holds(make.named("16 POWER 1 is one"), make.x().table(1, 0, 1, 0, 0) >= 1);
        is("16 the POWER of all ones is none", make.x().table(1, 0, last + 1, 0, 0), -1);
        Due.holds(make.named("16 the one below it is one"), make.x().table(1, 0, last, 0, 0) >= 1);
        is("19 POWER 0 is none", make.x().fits(1, 0, 0, 0, 0, 0, 0, 0), -1);
        is("19 POWER 1 is one", make.x().fits(1, 0, 1, 0, 0, 0, 0, 0), 0);
        is("19 the POWER of all ones is none", make.x().fits(1, 0, last + 1, 0, 0, 0, 0, 0), -1);
        is("19 the one below it is one", make.x().fits(1, 0, last, 0, 0, 0, 0, 0), 0);
    }

    private static void tables() {
        int[] powers = {1, make.bias, (1 << make.e) - 2};
        int[] units = {0, 10};
        for (int power : powers) {
            for (int function = 0; function < 5; function++) {
                int rounding = (function + power) % 5;
                for (int s : units) {
                    oneTable(function, rounding, power, 0, s);
                    oneTable(function, rounding, power, 1, s);
                }
            }
        }
    }

    /** All z are in the PARTS, one behind the other, and rounded right; a less 1 does not do. */
    private static void oneTable(int function, int rounding, int power, int degree, int s) {
        String table = "function " + function + " ROUNDING " + rounding + " POWER " + power + " DEGREE " + degree
            + " S " + s;
        HardBench x = make.forCalls(300);
        int parts = x.table(function, rounding, power, degree, s);
        is("20 " + table, x.status(4), parts);
        int z = 0;
        for (int i = 0; i < parts && i < 20; i++) {
            int first = x.part(i, 0);
            int last = x.part(i, 1);
            int a = x.part(i, 2);
            int b = x.part(i, 3);
            is("17 one behind the other: PART " + i + " of " + table, first, z);
            Due.holds(make.named("16 one z at least: PART " + i + " of " + table), last >= first);
            is("19 rounds all right: PART " + i, x.fits(function, rounding, power, first, last, a, b, s), -9);
            int misfit = x.fits(function, rounding, power, first, last, a - 1, b, s);
            Due.holds(make.named("17 a is the least one: PART " + i + " of " + table), misfit >= first);
            if (degree == 0) {
                is("17 DEGREE 0: b is 0", b, 0);
                int due = x.right(function, make.code(power, first), rounding);
                is("17 DEGREE 0: a is the CODE times the UNIT", a, due << s);
            }
            z = last + 1;
        }
        is("17 the first z of all: " + table, x.part(0, 0), 0);
        is("17 the last z of all: " + table, x.part(parts - 1, 1), make.zs - 1);
        is("17 no PART behind the last: " + table, x.part(parts, 0), TOLD + 1);
        int[] ends = {0, make.zs / 2, make.zs - 1};
        for (int end : ends) {
            int due = x.right(function, make.code(power, end), rounding);
            is("18 z is q of the POWER: " + table, x.look(end), due);
        }
        is("18 no z behind the last: " + table, x.look(make.zs), -1);
        is("18 no z before the first: " + table, x.look(-1), -1);
    }

    /** As many PARTS as can be: all 256 z from 1 to 2 have squares of their own. */
    private static void fullTable() {
        make = new Bench(2, 8);
        HardBench x = make.forCalls(20);
        is("16 a PART for each z", x.table(3, 0, 1, 0, 10), 256);
        is("20 256 PARTS", x.status(4), 256);
        is("17 the last PART's first z", x.part(255, 0), 255);
        is("17 the last PART's last z", x.part(255, 1), 255);
        // 511 squared is 1020.0039 times 2 to the 8; above 2 a step is twice as wide
        is("17 the last PART's a", x.part(255, 2), (2 * 256 + 254) << 10);
        is("17 the first PART's last z", x.part(0, 1), 0);
        is("17 the PART before the last", x.part(254, 1), 254);
        is("17 no PART 256", x.part(256, 0), TOLD + 1);
        is("18 the last z", x.look(255), 766);
        is("18 the z before it: 510 squared is 1016.0156 times 2 to the 8", x.look(254), 764);
        is("18 no z 256", x.look(256), -1);
    }

    /** As few as can be: one PART with all z. */
    private static void wholeTable() {
        make = new Bench(5, 8);
        HardBench x = make.forCalls(20);
        is("20 no TABLE", x.status(3), 0);
        is("16 all squares are ENDLESS", x.table(3, 0, 30, 0, 0), 1);
        is("20 a TABLE of one PART", x.status(3), 1);
        is("17 from z 0 on", x.part(0, 0), 0);
        is("17 to the last one", x.part(0, 1), 255);
        is("17 a", x.part(0, 2), 31 << 8);
        is("17 no PART 1", x.part(1, 0), TOLD + 1);
        is("16 all cubes are 0", x.table(4, 0, 1, 1, 10), 1);
        is("17 a of 0 is the least one", x.part(0, 2), 0);
        is("17 b of 0", x.part(0, 3), 0);
        is("18 0", x.look(255), 0);
        make = new Bench(2, 1);
        x = make.forCalls(20);
        // 1 by 1 and 1 by 1.5: CODES 2 and 1
        is("16 the least F has two z: DEGREE 0", x.table(0, 0, 1, 0, 0), 2);
        is("16 the least F has two z: DEGREE 1", x.table(0, 0, 1, 1, 0), 1);
        is("17 two z: last", x.part(0, 1), 1);
        is("17 two z: a", x.part(0, 2), 2);
        is("17 two z: b", x.part(0, 3), -1);
    }

    private static void latestTable() {
        make = new Bench(3, 3);
        HardBench x = make.forCalls(100);
        is("16 a long one", x.table(0, 0, 3, 0, 0), 7);
        is("16 a short one behind it", x.table(3, 0, 6, 0, 3), 1);
        is("20 PARTS of the latest", x.status(4), 1);
        is("17 PART 1 of the latest: none", x.part(1, 0), TOLD + 1);
        is("17 the last z of its only PART", x.part(0, 1), 7);
        is("18 the latest", x.look(0), 56);
        is("16 the long one again", x.table(0, 0, 3, 0, 0), 7);
        is("17 PART 6", x.part(6, 1), 7);
        is("18 the latest, S 0", x.look(0), 24);
        is("16 refused", x.table(0, 0, 3, 0, 11), -6);
        is("18 the latest that was not refused", x.look(7), 17);
        is("2 refused", x.make(6, 3), -6);
        is("18 the TABLE is there yet", x.look(7), 17);
        is("2 the same MAKE", x.make(3, 3), 128);
        is("18 no TABLE then", x.look(7), -3);
    }

    private static void otherCallsLeaveTheTable() {
        make = new Bench(3, 3);
        HardBench x = make.forCalls(200);
        x.table(0, 0, 3, 1, 4);
        x.about(3, 4);
        x.next(0);
        x.between(1, 9);
        x.round(77, -3, 2);
        for (int function = 0; function < 5; function++) {
            x.right(function, 40, 2);
            x.sort(function, 40);
            x.figures(function, 40);
            x.hard(function, 40);
            x.hardest(function, 1);
            x.count(function, 4);
            x.all(function, 3);
            x.spans(function, function);
            x.span(function, function, 2, 1);
            x.fits(function, 2, 4, 0, 7, 300, 5, 3);
            x.look(3);
            x.part(1, 2);
        }
        is("20 the TABLE stays", x.status(4), 2);
        int[] due = {24, 22, 21, 20, 19, 18, 17, 17};
        for (int z = 0; z < 8; z++) {
            is("18 the TABLE stays: z " + z, x.look(z), due[z]);
        }
        is("17 the TABLE stays: a", x.part(0, 2), 384);
        is("17 the TABLE stays: b", x.part(0, 3), -17);
    }

    /** An a below 0 is told as it is, and is no REFUSAL. */
    private static void belowNought() {
        make = new Bench(3, 3);
        HardBench x = make.forCalls(30);
        x.table(4, 4, 2, 1, 0);
        // cubes of 10 and 11 16ths are 7.8125 and 10.4 32nds: the odd ones are 7 and 11
        is("17 first z", x.part(1, 0), 2);
        is("17 last z", x.part(1, 1), 3);
        is("17 a below 0", x.part(1, 2), -1);
        is("17 b", x.part(1, 3), 4);
        is("18 a and 2 b", x.look(2), 7);
        is("18 a and 3 b", x.look(3), 11);
        is("3 X below 0", x.about(1, 5), -5);
        is("20 they were no REFUSALS", x.status(11) + x.status(12) + x.status(13) + x.status(14) + x.status(15), 0);
    }

    /** 1 by 1 .. 1.375 rounds to 24, 22, 21, 20: with S 4 and b -16 z 1 would need an a below 384. */
    private static void leastSlopeAndStart() {
        make = new Bench(3, 3);
        HardBench x = make.forCalls(60);
        x.table(0, 0, 3, 1, 4);
        is("17 b is the one of least amount", x.part(0, 3), -17);
        int last = x.part(0, 1);
        for (int a = 384; a < 400; a++) {
            Due.holds(make.named("19 no a fits with b -16"), x.fits(0, 0, 3, 0, last, a, -16, 4) >= 0);
        }
        is("19 the least a fits", x.fits(0, 0, 3, 0, last, 384, -17, 4), -9);
        is("19 an a below it does not fit", x.fits(0, 0, 3, 0, last, 383, -17, 4), 0);
        // one z alone fits with b 0, and the least a is its CODE by the UNIT
        x.table(0, 0, 3, 0, 10);
        is("17 one z: b", x.part(0, 3), 0);
        is("17 one z: a", x.part(0, 2), 24 << 10);
    }

    private static void units() {
        make = new Bench(3, 3);
        HardBench x = make.forCalls(60);
        // with whole b: 24 alone, or 24, 22 by b -2; then 21, 20, 19, 18, 17 by b -1; then 17
        is("16 S 0", x.table(0, 0, 3, 1, 0), 3);
        is("17 S 0: two z at first", x.part(0, 1), 1);
        is("17 S 0: b", x.part(0, 3), -2);
        is("17 S 0: a", x.part(0, 2), 24);
        is("17 S 0: five z then", x.part(1, 1), 6);
        is("17 S 0: b -1", x.part(1, 3), -1);
        is("17 S 0: a at z 0", x.part(1, 2), 23);
        is("17 S 0: one z is left", x.part(2, 0), 7);
        is("17 S 0: b of one z", x.part(2, 3), 0);
        is("17 S 0: a of one z", x.part(2, 2), 17);
        // with 1024ths b is -1025 first: z 1 needs 24 - b below 23
        is("16 S 10", x.table(0, 0, 3, 1, 10), 2);
        is("17 S 10: b", x.part(0, 3), -1025);
        is("17 S 10: a", x.part(0, 2), 24 << 10);
        is("18 S 10: z 0", x.look(0), 24);
        is("18 S 10: z 1", x.look(1), 22);
    }

    private static void fitsAtItsEnds() {
        make = new Bench(5, 8);
        int end = 1000000000;
        is("19 -9 for all z", make.x().fits(3, 0, 30, 0, 255, 31 << 8, 0, 0), -9);
        is("19 the last z alone", make.x().fits(3, 0, 30, 255, 255, 31 << 8, 0, 0), -9);
        is("19 the first z is told", make.x().fits(3, 0, 30, 0, 255, 0, 0, 0), 0);
        is("19 the first z of those asked for", make.x().fits(3, 0, 30, 100, 255, 0, 0, 0), 100);
        // with S 10 from 31 times 2 to the 18 on, 1024 numbers are cut down to the CODE of ENDLESS
        is("19 the greatest a", make.x().fits(3, 0, 30, 0, 255, (31 << 18) + 1023, 0, 10), -9);
        is("19 one more", make.x().fits(3, 0, 30, 0, 255, (31 << 18) + 1024, 0, 10), 0);
        is("19 one less than the least a", make.x().fits(3, 0, 30, 0, 255, (31 << 18) - 1, 0, 10), 0);
        is("19 just over at the last z", make.x().fits(3, 0, 30, 0, 255, (31 << 18) + 1023 - 254 * 4, 4, 10), 255);
        is("19 just below at the last z", make.x().fits(3, 0, 30, 0, 255, (31 << 18) + 254 * 4, -4, 10), 255);
        is("19 all but over", make.x().fits(3, 0, 30, 0, 254, (31 << 18) + 1023 - 254 * 4, 4, 10), -9);
        is("19 the greatest a and b", make.x().fits(3, 0, 30, 255, 255, end, end, 10), 255);
        is("19 the least a and b", make.x().fits(3, 0, 30, 255, 255, -end, -end, 10), 255);
        // 255 times 16843012 is 764 more than 2 to the 32, which an int would lose
        is("19 no wrapping round", make.x().fits(3, 0, 30, 255, 255, 7936 - 764, 16843012, 0), 255);
        // cubes of the least POWER are 0; -1 cut down by 1024 is -1 and not 0
        is("19 cut down below 0", make.x().fits(4, 0, 1, 0, 255, -1, 0, 10), 0);
        is("19 cut down above 0", make.x().fits(4, 0, 1, 0, 255, 1023, 0, 10), -9);
        is("19 cut down at 1", make.x().fits(4, 0, 1, 0, 255, 1024, 0, 10), 0);
    }
}
