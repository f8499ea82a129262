import java.math.BigInteger;

/**
 * What the document says of a MAKE, in its plainest form: FLOATS as multiples of 2 to the -SCALE,
 * and VALUE never reckoned but only compared with such multiples.
 */
final class Oracle {
    static final int NO_REAL = 0;
    static final int EXACT = 1;
    static final int TIE = 2;
    static final int NEITHER = 3;

    private static final int SCALE = 80;
    private static final BigInteger ONE = BigInteger.ONE.shiftLeft(SCALE);

    final int e;
    final int f;
    final int bias;
    final int codes;
    final int sign;
    final int endless;
    /** Amounts of the PLAIN ones with sign 0, and behind them what would be NEXT with one power more. */
    private final BigInteger[] amounts;

    Oracle(int e, int f) {
        this.e = e;
        this.f = f;
        bias = (1 << (e - 1)) - 1;
        codes = 1 << (1 + e + f);
        sign = codes / 2;
        endless = sign - (1 << f);
        amounts = new BigInteger[endless + 1];
        for (int code = 0; code <= endless; code++) {
            int p = code >> f;
            int q = code - (p << f);
            int m = p == 0 ? q : (1 << f) + q;
            int x = p == 0 ? 1 - bias - f : p - bias - f;
            amounts[code] = BigInteger.valueOf(m).shiftLeft(SCALE + x);
        }
    }

    boolean isPlain(int code) {
        return code % sign < endless;
    }

    /** A real number above 0 of which is known only how it compares with multiples of 2 to the -SCALE. */
    interface Real {
        int comparedWith(BigInteger y);
    }

    Real valueAt(int function, int code) {
        BigInteger x = amounts[code % sign];
        switch (function) {
            case 0:
                return y -> ONE.multiply(ONE).compareTo(x.multiply(y));
            case 1:
                return y -> x.multiply(ONE).compareTo(y.multiply(y));
            case 2:
                return y -> x.multiply(ONE).multiply(ONE).compareTo(y.multiply(y).multiply(y));
            case 3:
                return y -> x.multiply(x).compareTo(y.multiply(ONE));
            default:
                return y -> x.multiply(x).multiply(x).compareTo(y.multiply(ONE).multiply(ONE));
        }
    }

    static Real number(int m, int x) {
        BigInteger amount = BigInteger.valueOf(Math.abs(m)).shiftLeft(SCALE + x);
        return y -> amount.compareTo(y);
    }

    boolean isReal(int function, int code) {
        boolean zero = code % sign == 0;
        return isPlain(code) && !(function == 0 && zero) && !(function == 1 && code >= sign && !zero);
    }

    /** The greatest PLAIN one not above the number. */
    int lower(Real real) {
        int low = 0;
        int high = endless - 1;
        while (low < high) {
            int mid = (low + high + 1) / 2;
            if (real.comparedWith(amounts[mid]) >= 0) {
                low = mid;
            } else {
                high = mid - 1;
            }
        }
        return low;
    }

    int sortOf(Real real) {
        int v = lower(real);
        if (real.comparedWith(amounts[v]) == 0) {
            return EXACT;
        }
        return real.comparedWith(onTheWay(v, 512)) == 0 ? TIE : NEITHER;
    }

    /** v and so many 1024th of the way to w. */
    private BigInteger onTheWay(int v, int parts) {
        BigInteger way = amounts[v + 1].subtract(amounts[v]);
        return amounts[v].add(way.multiply(BigInteger.valueOf(parts)).shiftRight(10));
    }

    int rounded(Real real, boolean below, int rounding) {
        int turned = below && rounding == 2 ? 3 : below && rounding == 3 ? 2 : rounding;
        return amountRounded(real, turned) + (below ? sign : 0);
    }

    private int amountRounded(Real real, int rounding) {
        int v = lower(real);
        int w = v + 1;
        if (real.comparedWith(amounts[v]) == 0) {
            return v;
        }
        int odd = v % 2 == 1 ? v : w;
        int even = v % 2 == 0 ? v : w;
        int half = real.comparedWith(onTheWay(v, 512));
        switch (rounding) {
            case 0:
                return half < 0 ? v : half > 0 ? w : even;
            case 2:
                return w;
            case 4:
                return odd;
            default:
                return v;
        }
    }

    int right(int function, int code, int rounding) {
        boolean below = code >= sign;
        int amount = code % sign;
        int signed = below && function != 3 ? sign : 0;
        if (amount > endless || function == 1 && below && amount != 0) {
            return endless + 1;
        }
        if (amount == 0) {
            return function == 0 ? endless + signed : signed;
        }
        if (amount == endless) {
            return function == 0 ? signed : endless + signed;
        }
        return rounded(valueAt(function, code), signed != 0, rounding);
    }

    int sort(int function, int code) {
        if (!isReal(function, code)) {
            return NO_REAL;
        }
        return code % sign == 0 ? EXACT : sortOf(valueAt(function, code));
    }

    int figures(int function, int code) {
        int sort = sort(function, code);
        if (sort == NO_REAL || sort == EXACT) {
            return -9;
        }
        Real real = valueAt(function, code);
        int v = lower(real);
        if (v == endless - 1) {
            return -9;
        }
        int figures = 0;
        for (int k = 9; k >= 0; k--) {
            if (real.comparedWith(onTheWay(v, figures + (1 << k))) >= 0) {
                figures += 1 << k;
            }
        }
        return figures;
    }

    int hard(int function, int code) {
        int figures = figures(function, code);
        if (figures < 0) {
            return 0;
        }
        String all = Integer.toBinaryString(1024 + figures).substring(1);
        int alike = 1;
        while (alike < 9 && all.charAt(1 + alike) == all.charAt(1)) {
            alike++;
        }
        return alike;
    }
}
