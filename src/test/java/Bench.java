/** Objects of one MAKE: a new one is made before the calls that are promised for one run out. */
final class Bench {
    /** Of the 512 calls that are promised, make being one. */
    private static final int CALLS = 500;

    final int e;
    final int f;
    final int bias;
    final int codes;
    /** The CODE of 0 with sign 1. */
    final int sign;
    /** How many q, and z of a POWER. */
    final int zs;
    final int endless;
    final int greatest;
    private HardBench object;
    private int calls = CALLS;

    Bench(int e, int f) {
        this.e = e;
        this.f = f;
        bias = (1 << (e - 1)) - 1;
        codes = 2 << (e + f);
        sign = codes / 2;
        zs = 1 << f;
        endless = sign - zs;
        greatest = endless - 1;
    }

    /** The object for the next call; what earlier calls left behind may be gone. */
    HardBench x() {
        return forCalls(1);
    }

    /** The object for the next calls, so many, that belong together. */
    HardBench forCalls(int n) {
        if (calls + n > CALLS) {
            object = new HardBench();
            object.make(e, f);
            calls = 1;
        }
        calls += n;
        return object;
    }

    int code(int p, int q) {
        return (p << f) + q;
    }

    String named(String what) {
        return "E " + e + " F " + f + ": " + what;
    }
}
