/** The longest PART from a z on, by a search through every b that could fit two z. */
final class PartSearch {
    private PartSearch() {
    }

    /** The last z, a and b; of all b that reach as far the least amount, of two the one below 0. */
    static int[] longest(int[] due, int first, int degree, int s) {
        long unit = 1L << s;
        long widest = 0;
        if (degree == 1 && first + 1 < due.length) {
            widest = (Math.abs(due[first + 1] - due[first]) + 1) * unit;
        }
        int[] best = null;
        for (long amount = 0; amount <= widest; amount++) {
            int[] below = run(due, first, -amount, unit);
            int[] above = run(due, first, amount, unit);
            best = best == null || below[0] > best[0] ? below : best;
            best = above[0] > best[0] ? above : best;
        }
        return best;
    }

    /** With one b: the last z for which some a fits, and the least such a. */
    private static int[] run(int[] due, int first, long b, long unit) {
        long leastA = due[first] * unit - b * first;
        long greatestA = leastA + unit - 1;
        int last = first;
        for (int z = first + 1; z < due.length; z++) {
            long low = due[z] * unit - b * z;
            long newLeast = Math.max(leastA, low);
            long newGreatest = Math.min(greatestA, low + unit - 1);
            if (newLeast > newGreatest) {
                break;
            }
            leastA = newLeast;
            greatestA = newGreatest;
            last = z;
        }
        return new int[] {last, (int) leastA, (int) b};
    }
}
