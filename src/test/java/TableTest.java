import java.util.Arrays;

/** TABLES against a search through every b that could fit two z (promises 16 to 19). */
public final class TableTest {
    /** What is asked of one TABLE: of 25 PARTS six calls each, of 17 z one, and what it is itself. */
    private static final int CALLS = 25 * 6 + 17 + 4;

    private static Bench make;
    private static Oracle oracle;
    private static int[] due;

    private TableTest() {
    }

    public static void main(String[] args) {
        int[] allS = {0, 1, 2, 3, 4, 5, 6, 7, 8, 9, 10};
        for (int e = 2; e <= 4; e++) {
            for (int f = 1; f <= 3; f++) {
                lookAtMake(e, f, 1, allS);
            }
        }
        lookAtMake(5, 1, 1, allS);
        lookAtMake(5, 4, 3, new int[] {0, 2, 5, 10});
        lookAtMake(2, 8, 1, new int[] {0, 1, 6, 10});
        lookAtMake(3, 7, 2, new int[] {0, 4, 9});
        lookAtMake(5, 8, 7, new int[] {0, 3, 8});
        Due.end();
    }

    private static void lookAtMake(int e, int f, int powerStep, int[] units) {
        make = new Bench(e, f);
        oracle = new Oracle(e, f);
        for (int power = 1; power <= (1 << e) - 2; power += powerStep) {
            for (int function = 0; function < 5; function++) {
                for (int rounding = 0; rounding < 5; rounding++) {
                    readDue(function, rounding, power);
                    for (int s : units) {
                        lookAtTable(new int[] {function, rounding, power, 0, s});
                        lookAtTable(new int[] {function, rounding, power, 1, s});
                    }
                }
            }
        }
    }

    private static void readDue(int function, int rounding, int power) {
        due = new int[1 << oracle.f];
        for (int z = 0; z < due.length; z++) {
            due[z] = oracle.right(function, (power << oracle.f) + z, rounding);
        }
    }

    private static void lookAtTable(int[] t) {
        String name = make.named("table " + Arrays.toString(t));
        HardBench x = make.forCalls(CALLS);
        int parts = x.table(t[0], t[1], t[2], t[3], t[4]);
        int i = 0;
        for (int first = 0; first < due.length; i++) {
            int[] want = PartSearch.longest(due, first, t[3], t[4]);
            if (i < 20 || i >= parts - 5) {
                lookAtPart(x, name + " part " + i, new int[] {i, first}, want, t);
            }
            first = want[0] + 1;
        }
        Due.is(name + " 16 how many PARTS", parts, i);
        Due.is(name + " 20 how many PARTS", x.status(4), i);
        Due.is(name + " 20 is there", x.status(3), 1);
        int step = Math.max(due.length / 16, 1);
        for (int z = 0; z < due.length; z += step) {
            Due.is(name + " 18 z " + z, x.look(z), due[z]);
        }
        Due.is(name + " 18 the last z", x.look(due.length - 1), due[due.length - 1]);
    }

    private static void lookAtPart(HardBench x, String name, int[] at, int[] want, int[] t) {
        int i = at[0];
        int first = at[1];
        Due.is(name + " 17 first z", x.part(i, 0), first);
        Due.is(name + " 17 last z", x.part(i, 1), want[0]);
        Due.is(name + " 17 a", x.part(i, 2), want[1]);
        Due.is(name + " 17 b", x.part(i, 3), want[2]);
        Due.is(name + " 19 fits", x.fits(t[0], t[1], t[2], first, want[0], want[1], want[2], t[4]), -9);
        if (want[0] + 1 < due.length) {
            int misfit = x.fits(t[0], t[1], t[2], first, want[0] + 1, want[1], want[2], t[4]);
            Due.is(name + " 19 fits no more", misfit, want[0] + 1);
        }
    }
}
