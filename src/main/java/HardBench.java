import java.util.Arrays;

/**
 * Small floats of a told MAKE, functions of them rounded right by exact whole numbers,
 * the numbers that are hardest to round, stretches with one result, and shortest tables of lines.
 * The words in capitals are those of the document.
 */
public final class HardBench {
    private static final int NOBODY = -1;
    private static final int OTHER = -2;
    private static final int STATE = -3;
    private static final int BELOW = -4;
    private static final int ROOM = -6;
    private static final int NO_ANSWER = -9;

    /** Where an answer may itself be below 0, a REFUSAL is this less its number. */
    private static final int TOLD_FROM = 1000000000;

    private static final int FUNCTIONS = 5;
    private static final int OVER = 0;
    private static final int ROOT = 1;
    private static final int THIRD = 2;
    private static final int SQUARE = 3;

    private static final int ROUNDINGS = 5;
    private static final int NEAREST = 0;
    private static final int UP = 2;
    private static final int DOWN = 3;
    private static final int ODD = 4;

    private static final int SORTS = 4;
    private static final int NOT_REAL = 0;
    private static final int EXACT = 1;
    private static final int TIE = 2;
    private static final int NEITHER = 3;

    private static final int FIGURES = 10;
    private static final int HALF = 1 << (FIGURES - 1);
    private static final int HARDNESSES = 10;

    private static final int LEAST_E = 2;
    private static final int GREATEST_E = 5;
    private static final int LEAST_F = 1;
    private static final int GREATEST_F = 8;
    private static final int GREATEST_M = 100000;
    private static final int GREATEST_X = 60;
    private static final int GREATEST_S = 10;
    private static final int GREATEST_LINE = 1000000000;

    /** CODES are summed up in blocks of so many, so that one by its number is found without a look at all. */
    private static final int BLOCK_BITS = 8;
    private static final int BLOCKS = 1 << (1 + GREATEST_E + GREATEST_F - BLOCK_BITS);

    private final Floats floats;
    private final Place place;
    private final Value value;
    private final Census census;
    private final Stretches stretches;
    private final Lines lines;
    private final int[] refusals;

    public HardBench() {
        floats = new Floats();
        place = new Place(floats);
        value = new Value(floats);
        census = new Census(floats, value);
        stretches = new Stretches(floats, value);
        lines = new Lines(floats, value);
        refusals = new int[1 - ROOM];
    }

    public int make(int e, int f) {
        if (e < LEAST_E || f < LEAST_F) {
            return refuse(BELOW);
        }
        if (e > GREATEST_E || f > GREATEST_F) {
            return refuse(ROOM);
        }
        if (e != floats.e || f != floats.f) {
            floats.become(e, f);
            census.forget();
            stretches.forget();
        }
        lines.forget();
        return floats.codes;
    }

    public int about(int code, int what) {
        if (!floats.isCode(code)) {
            return refuseAsTold(NOBODY);
        }
        if (what < 0 || what > 5) {
            return refuseAsTold(OTHER);
        }
        if (what >= 4 && !floats.isPlain(code)) {
            return refuseAsTold(STATE);
        }
        switch (what) {
            case 0:
                return floats.kindOf(code);
            case 1:
                return floats.isBelow(code) ? 1 : 0;
            case 2:
                return floats.powerBits(code);
            case 3:
                return floats.figureBits(code);
            case 4:
                return floats.oddFactor(code);
            default:
                return floats.powerOfOddFactor(code);
        }
    }

    public int next(int code) {
        if (!floats.isCode(code)) {
            return refuse(NOBODY);
        }
        if (!floats.isPlain(code)) {
            return refuse(STATE);
        }
        return floats.codeAbove(code);
    }

    public int between(int code, int other) {
        if (!floats.isCode(code) || !floats.isCode(other)) {
            return refuse(NOBODY);
        }
        if (!floats.isPlain(code) || !floats.isPlain(other)) {
            return refuse(STATE);
        }
        int steps = Math.abs(floats.stepsFromZero(code) - floats.stepsFromZero(other));
        return Math.max(steps - 1, 0);
    }

    public int round(int m, int x, int rounding) {
        if (!isRounding(rounding)) {
            return refuse(NOBODY);
        }
        if (m < -GREATEST_M || x < -GREATEST_X) {
            return refuse(BELOW);
        }
        if (m > GREATEST_M || x > GREATEST_X) {
            return refuse(ROOM);
        }
        if (m == 0) {
            return 0;
        }
        place.lay(Math.abs(m), x, false);
        return place.rounded(m < 0, rounding);
    }

    public int right(int function, int code, int rounding) {
        if (!isFunction(function) || !floats.isCode(code) || !isRounding(rounding)) {
            return refuse(NOBODY);
        }
        return value.resultAt(function, code, rounding);
    }

    public int sort(int function, int code) {
        if (!isFunction(function) || !floats.isCode(code)) {
            return refuse(NOBODY);
        }
        value.read(function, code);
        return value.sortRead();
    }

    public int figures(int function, int code) {
        if (!isFunction(function) || !floats.isCode(code)) {
            return refuse(NOBODY);
        }
        value.read(function, code);
        return value.figuresRead();
    }

    public int hard(int function, int code) {
        if (!isFunction(function) || !floats.isCode(code)) {
            return refuse(NOBODY);
        }
        value.read(function, code);
        return value.hardnessRead();
    }

    public int hardest(int function, int i) {
        if (!isFunction(function)) {
            return refuse(NOBODY);
        }
        census.take(function);
        return census.hardestCode(function, i);
    }

    public int count(int function, int hardness) {
        if (!isFunction(function)) {
            return refuse(NOBODY);
        }
        if (hardness < 0) {
            return refuse(BELOW);
        }
        if (hardness >= HARDNESSES) {
            return refuse(ROOM);
        }
        census.take(function);
        return census.ofHardness(function, hardness);
    }

    public int all(int function, int sort) {
        if (!isFunction(function)) {
            return refuse(NOBODY);
        }
        if (sort < 0 || sort >= SORTS) {
            return refuse(OTHER);
        }
        census.take(function);
        return census.ofSort(function, sort);
    }

    public int spans(int function, int rounding) {
        if (!isFunction(function) || !isRounding(rounding)) {
            return refuse(NOBODY);
        }
        stretches.take(function, rounding);
        return stretches.total(function, rounding);
    }

    public int span(int function, int rounding, int i, int what) {
        if (!isFunction(function) || !isRounding(rounding)) {
            return refuse(NOBODY);
        }
        stretches.take(function, rounding);
        if (i < 0 || i >= stretches.total(function, rounding)) {
            return refuse(NOBODY);
        }
        if (what < 0 || what > 2) {
            return refuse(OTHER);
        }
        if (what == 1) {
            boolean isLast = i + 1 == stretches.total(function, rounding);
            return isLast ? floats.greatestPlain() : stretches.firstCode(function, rounding, i + 1) - 1;
        }
        int first = stretches.firstCode(function, rounding, i);
        return what == 0 ? first : value.resultAt(function, first, rounding);
    }

    public int table(int function, int rounding, int power, int degree, int s) {
        if (!isFunction(function) || !isRounding(rounding) || !floats.isPower(power)) {
            return refuse(NOBODY);
        }
        if (degree < 0 || degree > 1) {
            return refuse(OTHER);
        }
        if (s < 0) {
            return refuse(BELOW);
        }
        if (s > GREATEST_S) {
            return refuse(ROOM);
        }
        lines.readDue(function, rounding, power);
        lines.cutParts(degree, s);
        return lines.parts();
    }

    public int part(int i, int what) {
        if (lines.parts() == 0) {
            return refuseAsTold(STATE);
        }
        if (i < 0 || i >= lines.parts()) {
            return refuseAsTold(NOBODY);
        }
        switch (what) {
            case 0:
                return lines.firstZ(i);
            case 1:
                return lines.lastZ(i);
            case 2:
                return lines.lineStart(i);
            case 3:
                return lines.lineSlope(i);
            default:
                return refuseAsTold(OTHER);
        }
    }

    public int look(int z) {
        if (lines.parts() == 0) {
            return refuse(STATE);
        }
        if (!floats.isZ(z)) {
            return refuse(NOBODY);
        }
        return lines.toldFor(z);
    }

    public int fits(int function, int rounding, int power, int from, int to, int a, int b, int s) {
        if (!isFunction(function) || !isRounding(rounding) || !floats.isPower(power)) {
            return refuse(NOBODY);
        }
        if (!floats.isZ(from) || !floats.isZ(to) || from > to) {
            return refuse(NOBODY);
        }
        if (a < -GREATEST_LINE || b < -GREATEST_LINE || s < 0) {
            return refuse(BELOW);
        }
        if (a > GREATEST_LINE || b > GREATEST_LINE || s > GREATEST_S) {
            return refuse(ROOM);
        }
        for (int z = from; z <= to; z++) {
            long due = value.resultAt(function, floats.codeOf(power, z), rounding);
            if (Lines.onLine(a, b, z, s) != due) {
                return z;
            }
        }
        return NO_ANSWER;
    }

    public int status(int what) {
        switch (what) {
            case 0:
                return floats.e;
            case 1:
                return floats.f;
            case 2:
                return floats.codes;
            case 3:
                return lines.parts() > 0 ? 1 : 0;
            case 4:
                return lines.parts();
            default:
                return what >= 11 && what <= 16 ? Rows.at(refusals, what - 10) : NO_ANSWER;
        }
    }

    private int refuse(int number) {
        Rows.addOne(refusals, -number);
        return number;
    }

    private int refuseAsTold(int number) {
        return TOLD_FROM - refuse(number);
    }

    private static boolean isFunction(int function) {
        return function >= 0 && function < FUNCTIONS;
    }

    private static boolean isRounding(int rounding) {
        return rounding >= 0 && rounding < ROUNDINGS;
    }

    /** Rows of numbers whose every index is looked at before it is used. */
    private static final class Rows {
        static int at(int[] row, int i) {
            return i >= 0 && i < row.length ? row[i] : 0;
        }

        static void put(int[] row, int i, int number) {
            if (i >= 0 && i < row.length) {
                row[i] = number;
            }
        }

        static void addOne(int[] row, int i) {
            put(row, i, at(row, i) + 1);
        }
    }

    /** The FLOATS of one MAKE, told by their CODES. */
    private static final class Floats {
        private static final int KIND_NUMBER = 0;
        private static final int KIND_ZERO = 1;
        private static final int KIND_ENDLESS = 2;
        private static final int KIND_NONE = 3;

        private int e;
        private int f;
        private int bias;
        private int codes;
        private int signBit;
        /** The CODE of ENDLESS with sign 0; the PLAIN ones with sign 0 are those below it. */
        private int endless;

        Floats() {
            become(3, 3);
        }

        void become(int newE, int newF) {
            e = newE;
            f = newF;
            bias = (1 << (e - 1)) - 1;
            codes = 1 << (1 + e + f);
            signBit = 1 << (e + f);
            endless = ((1 << e) - 1) << f;
        }

        boolean isCode(int code) {
            return code >= 0 && code < codes;
        }

        boolean isPower(int power) {
            return power >= 1 && power < (1 << e) - 1;
        }

        boolean isZ(int z) {
            return z >= 0 && z < zs();
        }

        int zs() {
            return 1 << f;
        }

        int codeOf(int power, int z) {
            return (power << f) + z;
        }

        int none() {
            return endless + 1;
        }

        int greatestPlain() {
            return endless - 1;
        }

        int amount(int code) {
            return code & (signBit - 1);
        }

        boolean isBelow(int code) {
            return (code & signBit) != 0;
        }

        boolean isPlain(int code) {
            return amount(code) < endless;
        }

        boolean isZero(int code) {
            return amount(code) == 0;
        }

        boolean isNone(int code) {
            return amount(code) > endless;
        }

        int kindOf(int code) {
            if (isPlain(code)) {
                return isZero(code) ? KIND_ZERO : KIND_NUMBER;
            }
            return isNone(code) ? KIND_NONE : KIND_ENDLESS;
        }

        int powerBits(int code) {
            return amount(code) >> f;
        }

        int figureBits(int code) {
            return code & (zs() - 1);
        }

        /** With power(code): the amount of a PLAIN one is factor times 2 to the power. */
        int factor(int code) {
            return powerBits(code) == 0 ? figureBits(code) : zs() + figureBits(code);
        }

        int power(int code) {
            return Math.max(powerBits(code), 1) - bias - f;
        }

        int oddFactor(int code) {
            int factor = factor(code);
            return factor == 0 ? 0 : factor >> Integer.numberOfTrailingZeros(factor);
        }

        int powerOfOddFactor(int code) {
            int factor = factor(code);
            return factor == 0 ? 0 : power(code) + Integer.numberOfTrailingZeros(factor);
        }

        /** The PLAIN ones in their order as whole numbers one behind the other, 0 with either sign being 0. */
        int stepsFromZero(int code) {
            return isBelow(code) ? -amount(code) : amount(code);
        }

        int codeAbove(int code) {
            int steps = stepsFromZero(code) + 1;
            return steps < 0 ? signBit - steps : steps;
        }
    }

    /** Where an amount above 0 lies among the FLOATS: v, and ten figures of the way from v to w. */
    private static final class Place {
        private final Floats floats;
        /** The CODE of v. */
        private int lower;
        /** The first ten figures of the way from v to w. */
        private int way;
        /** Whether the amount is above what v and those figures tell. */
        private boolean more;
        /** Whether the amount is not below w and v is the greatest PLAIN one. */
        private boolean beyond;

        Place(Floats floats) {
            this.floats = floats;
        }

        /** Takes the amount m times 2 to the x, or one that lies between it and (m and 1) times 2 to the x. */
        void lay(long m, int x, boolean andMore) {
            int top = 63 - Long.numberOfLeadingZeros(m) + x;
            int power = Math.max(top, 1 - floats.bias);
            int shift = power - floats.f - FIGURES - x;
            long inFigures = shifted(m, shift);
            more = andMore || shift > 0 && shifted(inFigures, -shift) != m;
            int code = ((power + floats.bias - 1) << floats.f) + (int) (inFigures >> FIGURES);
            way = (int) inFigures & ((1 << FIGURES) - 1);
            beyond = code > floats.greatestPlain();
            lower = beyond ? floats.greatestPlain() : code;
        }

        int sortLaid() {
            if (beyond || more) {
                return NEITHER;
            }
            if (way == 0) {
                return EXACT;
            }
            return way == HALF ? TIE : NEITHER;
        }

        int figuresLaid() {
            boolean none = sortLaid() == EXACT || lower == floats.greatestPlain();
            return none ? NO_ANSWER : way;
        }

        int rounded(boolean below, int rounding) {
            int turned = rounding;
            if (below && (rounding == UP || rounding == DOWN)) {
                turned = UP + DOWN - rounding;
            }
            int code = takesUpper(turned) ? lower + 1 : lower;
            return below ? code + floats.signBit : code;
        }

        private boolean takesUpper(int rounding) {
            int sort = sortLaid();
            if (sort == EXACT) {
                return false;
            }
            boolean lowerIsEven = (lower & 1) == 0;
            switch (rounding) {
                case NEAREST:
                    return sort == TIE ? !lowerIsEven : beyond || way >= HALF;
                case UP:
                    return true;
                case ODD:
                    return lowerIsEven;
                default:
                    return false;
            }
        }

        /** n by 2 to the shift, cut; a shift below 0 is one to the left. */
        private static long shifted(long n, int shift) {
            if (shift > 62) {
                return 0;
            }
            return shift >= 0 ? n >> shift : n << -shift;
        }
    }

    /** VALUE of a function at a CODE; what is told of it is of the one that was read last. */
    private static final class Value {
        /** Bits of a quotient: enough for F and ten figures, whatever divides. */
        private static final int OVER_BITS = 40;
        /** The highest bit of a root: F and ten figures need 18. */
        private static final int ROOT_TOP = 19;

        private final Floats floats;
        private final Place place;
        /** The amount of VALUE: m times 2 to the x, or (more) between it and (m and 1) times 2 to the x. */
        private long m;
        private int x;
        private boolean more;
        /** Whether there is an amount above 0, so that it has been laid among the FLOATS. */
        private boolean laid;
        private boolean below;
        /** The RIGHT result where nothing is to be rounded. */
        private int settled;
        private int sort;

        Value(Floats floats) {
            this.floats = floats;
            this.place = new Place(floats);
        }

        int resultAt(int function, int code, int rounding) {
            read(function, code);
            return laid ? place.rounded(below, rounding) : settled;
        }

        int sortRead() {
            return sort;
        }

        int figuresRead() {
            return laid ? place.figuresLaid() : NO_ANSWER;
        }

        int hardnessRead() {
            int figures = figuresRead();
            if (figures < 0) {
                return 0;
            }
            int second = figures >> (FIGURES - 2) & 1;
            int alike = 0;
            for (int k = FIGURES - 2; k >= 0 && (figures >> k & 1) == second; k--) {
                alike++;
            }
            return alike;
        }

        void read(int function, int code) {
            boolean zero = floats.isZero(code);
            boolean rootBelow = function == ROOT && floats.isBelow(code);
            laid = floats.isPlain(code) && !zero && !rootBelow;
            if (laid) {
                below = function != SQUARE && floats.isBelow(code);
                reckon(function, floats.factor(code), floats.power(code));
                place.lay(m, x, more);
                sort = place.sortLaid();
            } else {
                settled = settledResult(function, code);
                sort = zero && function != OVER ? EXACT : NOT_REAL;
            }
        }

        private int settledResult(int function, int code) {
            boolean zero = floats.isZero(code);
            boolean rootBelow = function == ROOT && floats.isBelow(code) && !zero;
            if (floats.isNone(code) || rootBelow) {
                return floats.none();
            }
            int sign = function == SQUARE ? 0 : code & floats.signBit;
            boolean toZero = zero != (function == OVER);
            return toZero ? sign : sign + floats.endless;
        }

        /** The amount of the function at (factor times 2 to the power), which is above 0. */
        private void reckon(int function, int factor, int power) {
            long n = factor;
            switch (function) {
                case OVER:
                    reckonOver(factor, power);
                    break;
                case ROOT:
                    reckonRoot(factor, power);
                    break;
                case THIRD:
                    reckonThird(factor, power);
                    break;
                case SQUARE:
                    keep(n * n, 2 * power, false);
                    break;
                default:
                    keep(n * n * n, 3 * power, false);
                    break;
            }
        }

        private void keep(long newM, int newX, boolean andMore) {
            m = newM;
            x = newX;
            more = andMore;
        }

        private void reckonOver(int factor, int power) {
            long one = 1L << OVER_BITS;
            long quotient = factor > 0 ? one / factor : one;
            keep(quotient, -power - OVER_BITS, quotient * factor != one);
        }

        /** The factor is first put so that its root's highest bit is ROOT_TOP and the power is even. */
        private void reckonRoot(int factor, int power) {
            int shift = 2 * ROOT_TOP - 31 + Integer.numberOfLeadingZeros(factor);
            shift += Math.floorMod(power - shift, 2);
            long n = (long) factor << shift;
            long root = 0;
            for (int k = ROOT_TOP; k >= 0; k--) {
                long tried = root + (1L << k);
                if (tried * tried <= n) {
                    root = tried;
                }
            }
            keep(root, Math.floorDiv(power - shift, 2), root * root != n);
        }

        /** The factor is first put so that its root's highest bit is ROOT_TOP and the power a multiple of 3. */
        private void reckonThird(int factor, int power) {
            int shift = 3 * ROOT_TOP - 31 + Integer.numberOfLeadingZeros(factor);
            shift += Math.floorMod(power - shift, 3);
            long n = (long) factor << shift;
            long root = 0;
            for (int k = ROOT_TOP; k >= 0; k--) {
                long tried = root + (1L << k);
                if (tried * tried * tried <= n) {
                    root = tried;
                }
            }
            keep(root, Math.floorDiv(power - shift, 3), root * root * root != n);
        }
    }

    /** How many CODES are of each sort and HARDNESS, reckoned once for each function of a MAKE. */
    private static final class Census {
        private final Floats floats;
        private final Value value;
        private final int[] taken;
        private final int[] sorts;
        private final int[] hardnesses;
        /** Of each block of CODES the greatest HARDNESS, and how many CODES of the block have it. */
        private final int[] blockGreatest;
        private final int[] blockHave;

        Census(Floats floats, Value value) {
            this.floats = floats;
            this.value = value;
            taken = new int[FUNCTIONS];
            sorts = new int[FUNCTIONS * SORTS];
            hardnesses = new int[FUNCTIONS * HARDNESSES];
            blockGreatest = new int[FUNCTIONS * BLOCKS];
            blockHave = new int[FUNCTIONS * BLOCKS];
        }

        void forget() {
            Arrays.fill(taken, 0);
            Arrays.fill(sorts, 0);
            Arrays.fill(hardnesses, 0);
            Arrays.fill(blockGreatest, 0);
            Arrays.fill(blockHave, 0);
        }

        void take(int function) {
            if (Rows.at(taken, function) != 0) {
                return;
            }
            Rows.put(taken, function, 1);
            for (int code = 0; code < floats.codes; code++) {
                value.read(function, code);
                int hardness = value.hardnessRead();
                Rows.addOne(sorts, function * SORTS + value.sortRead());
                Rows.addOne(hardnesses, function * HARDNESSES + hardness);
                addToBlock(function * BLOCKS + (code >> BLOCK_BITS), hardness);
            }
        }

        int ofSort(int function, int sort) {
            return Rows.at(sorts, function * SORTS + sort);
        }

        int ofHardness(int function, int hardness) {
            return Rows.at(hardnesses, function * HARDNESSES + hardness);
        }

        int hardestCode(int function, int i) {
            int greatest = greatestHardness(function);
            if (i < 0 || i >= ofHardness(function, greatest)) {
                return NO_ANSWER;
            }
            int left = i;
            int block = 0;
            while (block < BLOCKS && left >= inBlock(function, block, greatest)) {
                left -= inBlock(function, block, greatest);
                block++;
            }
            for (int code = block << BLOCK_BITS; code < floats.codes; code++) {
                value.read(function, code);
                left -= value.hardnessRead() == greatest ? 1 : 0;
                if (left < 0) {
                    return code;
                }
            }
            return NO_ANSWER;
        }

        private int inBlock(int function, int block, int hardness) {
            int at = function * BLOCKS + block;
            return Rows.at(blockGreatest, at) == hardness ? Rows.at(blockHave, at) : 0;
        }

        private int greatestHardness(int function) {
            int greatest = HARDNESSES - 1;
            while (greatest > 0 && ofHardness(function, greatest) == 0) {
                greatest--;
            }
            return greatest;
        }

        private void addToBlock(int at, int hardness) {
            if (hardness > Rows.at(blockGreatest, at)) {
                Rows.put(blockGreatest, at, hardness);
                Rows.put(blockHave, at, 0);
            }
            if (hardness == Rows.at(blockGreatest, at)) {
                Rows.addOne(blockHave, at);
            }
        }
    }

    /** The SPANS, reckoned once for each function and ROUNDING of a MAKE. */
    private static final class Stretches {
        /** SPANS are of CODES with sign 0 alone. */
        private static final int SPAN_BLOCKS = BLOCKS / 2;

        private final Floats floats;
        private final Value value;
        /** How many SPANS; 0 if they have not been reckoned. */
        private final int[] totals;
        /** How many SPANS begin in each block of CODES. */
        private final int[] begun;

        Stretches(Floats floats, Value value) {
            this.floats = floats;
            this.value = value;
            totals = new int[FUNCTIONS * ROUNDINGS];
            begun = new int[FUNCTIONS * ROUNDINGS * SPAN_BLOCKS];
        }

        void forget() {
            Arrays.fill(totals, 0);
            Arrays.fill(begun, 0);
        }

        int total(int function, int rounding) {
            return Rows.at(totals, function * ROUNDINGS + rounding);
        }

        void take(int function, int rounding) {
            if (total(function, rounding) != 0) {
                return;
            }
            int at = function * ROUNDINGS + rounding;
            int before = NO_ANSWER;
            for (int code = 1; code < floats.endless; code++) {
                int result = value.resultAt(function, code, rounding);
                if (result != before) {
                    Rows.addOne(totals, at);
                    Rows.addOne(begun, at * SPAN_BLOCKS + (code >> BLOCK_BITS));
                }
                before = result;
            }
        }

        /** The first CODE of SPAN i. */
        int firstCode(int function, int rounding, int i) {
            int at = (function * ROUNDINGS + rounding) * SPAN_BLOCKS;
            int left = i;
            int block = 0;
            while (block < SPAN_BLOCKS && left >= Rows.at(begun, at + block)) {
                left -= Rows.at(begun, at + block);
                block++;
            }
            int start = Math.max(block << BLOCK_BITS, 1);
            int before = start == 1 ? NO_ANSWER : value.resultAt(function, start - 1, rounding);
            for (int code = start; code < floats.endless; code++) {
                int result = value.resultAt(function, code, rounding);
                left -= result == before ? 0 : 1;
                if (left < 0) {
                    return code;
                }
                before = result;
            }
            return NO_ANSWER;
        }
    }

    /** The latest TABLE. */
    private static final class Lines {
        private static final int MOST_Z = 1 << GREATEST_F;
        /** Above every amount of b that two z next to one another can ask for. */
        private static final long WIDEST = 1L << 40;

        private final Floats floats;
        private final Value value;
        /** The CODE that is due for each z. */
        private final int[] due;
        private final int[] firsts;
        private final int[] starts;
        private final int[] slopes;
        private int parts;
        private int s;
        /** The b that fit all z of the PART that is being cut. */
        private long least;
        private long greatest;

        Lines(Floats floats, Value value) {
            this.floats = floats;
            this.value = value;
            due = new int[MOST_Z];
            firsts = new int[MOST_Z];
            starts = new int[MOST_Z];
            slopes = new int[MOST_Z];
        }

        static long onLine(long a, long b, long z, int s) {
            return (a + b * z) >> s;
        }

        void forget() {
            parts = 0;
        }

        /** How many PARTS; 0 if there is no TABLE. */
        int parts() {
            return parts;
        }

        int firstZ(int i) {
            return Rows.at(firsts, i);
        }

        int lastZ(int i) {
            return (i + 1 < parts ? firstZ(i + 1) : floats.zs()) - 1;
        }

        int lineStart(int i) {
            return Rows.at(starts, i);
        }

        int lineSlope(int i) {
            return Rows.at(slopes, i);
        }

        int toldFor(int z) {
            int i = 0;
            while (i < parts && lastZ(i) < z) {
                i++;
            }
            return (int) onLine(lineStart(i), lineSlope(i), z, s);
        }

        void readDue(int function, int rounding, int power) {
            for (int z = 0; z < floats.zs(); z++) {
                Rows.put(due, z, value.resultAt(function, floats.codeOf(power, z), rounding));
            }
        }

        void cutParts(int degree, int newS) {
            s = newS;
            parts = 0;
            int first = 0;
            widen(degree);
            for (int z = 1; z < floats.zs(); z++) {
                if (!narrow(first, z)) {
                    closePart(first, z - 1);
                    first = z;
                    widen(degree);
                }
            }
            closePart(first, floats.zs() - 1);
        }

        private void widen(int degree) {
            least = degree == 0 ? 0 : -WIDEST;
            greatest = degree == 0 ? 0 : WIDEST;
        }

        /**
         * Takes z into the PART if some b fits it too. A line fits if it fits each two z of the PART,
         * since an a is bounded from below by one z and from above by another.
         */
        private boolean narrow(int first, int z) {
            long unit = 1L << s;
            long newLeast = least;
            long newGreatest = greatest;
            for (int y = first; y < z; y++) {
                long rise = (Rows.at(due, z) - Rows.at(due, y)) * unit;
                newLeast = Math.max(newLeast, -floorBy(unit - 1 - rise, z - y));
                newGreatest = Math.min(newGreatest, floorBy(unit - 1 + rise, z - y));
            }
            if (newLeast > newGreatest) {
                return false;
            }
            least = newLeast;
            greatest = newGreatest;
            return true;
        }

        private static long floorBy(long n, long divisor) {
            return divisor > 0 ? Math.floorDiv(n, divisor) : 0;
        }

        private void closePart(int first, int last) {
            long b = Math.max(least, Math.min(greatest, 0));
            long a = leastStart(first, b);
            for (int z = first + 1; z <= last; z++) {
                a = Math.max(a, leastStart(z, b));
            }
            Rows.put(firsts, parts, first);
            Rows.put(starts, parts, (int) a);
            Rows.put(slopes, parts, (int) b);
            parts++;
        }

        /** The least a that is right for one z, with a b. */
        private long leastStart(int z, long b) {
            return ((long) Rows.at(due, z) << s) - b * z;
        }
    }
}
