/**
 * Pairings of points of a curve over a prime, and what is signed by them. The public calls test what they are given
 * and answer refusals; behind them PrimeField, Curve and Pairing reckon with what is known to be right.
 */
public final class PairingDesk {
    public static final int NONE = -1, BAD = -2, STATE = -3;

    private static final int SLOT_COUNT = 16, VALUE_COUNT = 8, MOST_SIGNERS = 8;
    private static final int MOST_TRIES = 1000;

    // Points and wide numbers are kept as one long of two 31-bit halves, so that reckoning makes no objects.
    private static final int HALF_BITS = 31;
    private static final long HALF_MASK = (1L << HALF_BITS) - 1;
    private static final long NOWHERE = -1L, NO_POINT = -2L;
    private static final long ONE = 1L << HALF_BITS;

    private final long[] slots;
    private final long[] values;
    // Both are null while there is no FIELD, and neither is null once there is one.
    private Curve curve;
    private Pairing pairing;

    public PairingDesk() {
        slots = new long[SLOT_COUNT];
        values = new long[VALUE_COUNT];
        clearRows();
    }

    // ---- the field

    public int field(int p, int r) {
        if (!fitTogether(p, r)) {
            return BAD;
        }
        curve = new Curve(new PrimeField(p), r);
        pairing = new Pairing(curve);
        clearRows();
        return (int) curve.h;
    }

    public int told(int what) {
        if (what < 0 || what > 2) {
            return BAD;
        }
        if (curve == null) {
            return STATE;
        }
        return (int) (what == 0 ? curve.p : what == 1 ? curve.r : curve.h);
    }

    public int root(int x) {
        if (curve == null) {
            return STATE;
        }
        if (!curve.field.has(x)) {
            return BAD;
        }
        return (int) curve.field.evenRoot(x);
    }

    // ---- points

    public int point(int slot, int x, int y) {
        if (curve == null) {
            return STATE;
        }
        if (!isSlot(slot) || !curve.field.has(x) || !curve.field.has(y)) {
            return BAD;
        }
        if (!curve.passes(x, y)) {
            return NONE;
        }
        slots[slot] = joined(x, y);
        return 1;
    }

    public int nowhere(int slot) {
        if (curve == null) {
            return STATE;
        }
        if (!isSlot(slot)) {
            return BAD;
        }
        slots[slot] = NOWHERE;
        return 1;
    }

    public int turn(int slot, long w) {
        if (curve == null) {
            return STATE;
        }
        if (!isSlot(slot)) {
            return BAD;
        }
        slots[slot] = curve.turned(w);
        return curve.tried;
    }

    public int add(int slot, int a, int b) {
        if (curve == null) {
            return STATE;
        }
        if (!isSlot(slot) || !isSlot(a) || !isSlot(b)) {
            return BAD;
        }
        slots[slot] = curve.sum(slots[a], slots[b]);
        return slots[slot] == NOWHERE ? 0 : 1;
    }

    public int times(int slot, int a, long k) {
        if (curve == null) {
            return STATE;
        }
        if (!isSlot(slot) || !isSlot(a)) {
            return BAD;
        }
        slots[slot] = curve.multiple(k, slots[a]);
        return slots[slot] == NOWHERE ? 0 : 1;
    }

    public int at(int slot, int what) {
        if (curve == null) {
            return STATE;
        }
        if (!isSlot(slot) || !isHalf(what)) {
            return BAD;
        }
        return slots[slot] == NOWHERE ? NONE : half(slots[slot], what);
    }

    public int order(int slot) {
        if (curve == null) {
            return STATE;
        }
        if (!isSlot(slot)) {
            return BAD;
        }
        return (int) curve.orderOf(slots[slot]);
    }

    public long write(int slot) {
        if (curve == null) {
            return STATE;
        }
        if (!isSlot(slot)) {
            return BAD;
        }
        return written(slots[slot]);
    }

    public int read(int slot, long w) {
        if (curve == null) {
            return STATE;
        }
        if (!isSlot(slot)) {
            return BAD;
        }
        long point = curve.pointWritten(w);
        if (point == NO_POINT) {
            return NONE;
        }
        slots[slot] = point;
        return 1;
    }

    // ---- values

    public int pair(int value, int a, int b) {
        if (pairing == null) {
            return STATE;
        }
        if (!isValue(value) || !isSlot(a) || !isSlot(b)) {
            return BAD;
        }
        if (!pairing.takes(slots[a]) || !pairing.takes(slots[b])) {
            return NONE;
        }
        values[value] = pairing.of(slots[a], slots[b]);
        return pairing.linesOf(slots[a], slots[b]);
    }

    public int multiply(int value, int a, int b) {
        if (pairing == null) {
            return STATE;
        }
        if (!isValue(value) || !isValue(a) || !isValue(b)) {
            return BAD;
        }
        values[value] = pairing.product(values[a], values[b]);
        return values[value] == ONE ? 1 : 0;
    }

    public int power(int value, int a, long k) {
        if (pairing == null) {
            return STATE;
        }
        if (!isValue(value) || !isValue(a) || k < 0) {
            return BAD;
        }
        values[value] = pairing.raised(values[a], k);
        return values[value] == ONE ? 1 : 0;
    }

    public int value(int value, int what) {
        if (pairing == null) {
            return STATE;
        }
        if (!isValue(value) || !isHalf(what)) {
            return BAD;
        }
        return half(values[value], what);
    }

    // ---- keys, signatures

    public int open(int slot, int key) {
        if (curve == null) {
            return STATE;
        }
        if (!isSlot(slot) || !curve.isKey(key)) {
            return BAD;
        }
        slots[slot] = curve.multiple(key, curve.base);
        return 1;
    }

    public int sign(int slot, int key, long w) {
        if (curve == null) {
            return STATE;
        }
        if (!isSlot(slot) || !curve.isKey(key)) {
            return BAD;
        }
        slots[slot] = curve.multiple(key, curve.turned(w));
        return 1;
    }

    public int holds(int a, long w, int s) {
        if (pairing == null) {
            return STATE;
        }
        if (!isSlot(a) || !isSlot(s)) {
            return BAD;
        }
        return pairing.agree(slots[s], slots, a, 1, w) ? 1 : 0;
    }

    public int holdsAll(int from, int n, long w, int s) {
        if (pairing == null) {
            return STATE;
        }
        if (!isSlot(from) || n < 1 || n > MOST_SIGNERS || from + n > SLOT_COUNT || !isSlot(s)) {
            return BAD;
        }
        return pairing.agree(slots[s], slots, from, n, w) ? 1 : 0;
    }

    public long digest() {
        if (curve == null) {
            return STATE;
        }
        long hash = 17;
        for (int slot = 0; slot < SLOT_COUNT; slot++) {
            hash = 31 * hash + written(slots[slot]);
        }
        for (int value = 0; value < VALUE_COUNT; value++) {
            hash = 31 * hash + upper(values[value]);
            hash = 31 * hash + lower(values[value]);
        }
        return hash;
    }

    // ---- what the calls share

    private void clearRows() {
        for (int slot = 0; slot < SLOT_COUNT; slot++) {
            slots[slot] = NOWHERE;
        }
        for (int value = 0; value < VALUE_COUNT; value++) {
            values[value] = ONE;
        }
    }

    private static boolean isSlot(int slot) {
        return slot >= 0 && slot < SLOT_COUNT;
    }

    private static boolean isValue(int value) {
        return value >= 0 && value < VALUE_COUNT;
    }

    private static boolean isHalf(int what) {
        return what == 0 || what == 1;
    }

    private static boolean fitTogether(int p, int r) {
        if (p < 11 || p % 4 != 3 || r <= 2) {
            return false;
        }
        long points = p + 1L;
        if (points % r != 0 || points / r % r == 0) {
            return false;
        }
        return isOddPrime(p) && isOddPrime(r);
    }

    /** Of numbers above 2. */
    private static boolean isOddPrime(long n) {
        if (n % 2 == 0) {
            return false;
        }
        for (long d = 3; d * d <= n; d += 2) {
            if (n % d == 0) {
                return false;
            }
        }
        return true;
    }

    private static long joined(long upper, long lower) {
        return upper << HALF_BITS | lower;
    }

    private static long upper(long pair) {
        return pair >> HALF_BITS;
    }

    private static long lower(long pair) {
        return pair & HALF_MASK;
    }

    private static int half(long pair, int what) {
        return (int) (what == 0 ? upper(pair) : lower(pair));
    }

    private static long written(long point) {
        return point == NOWHERE ? -1 : 2 * upper(point) + lower(point) % 2;
    }

    /** The numbers 0 .. p - 1; p is below 2 to the 31, so that a product and the sum of two fit a long. */
    private static final class PrimeField {
        final long p;

        PrimeField(long p) {
            this.p = p;
        }

        boolean has(int x) {
            return x >= 0 && x < p;
        }

        long product(long a, long b) {
            return a * b % p;
        }

        long difference(long a, long b) {
            return a < b ? a - b + p : a - b;
        }

        /** By Euclid's steps, of which numbers below 2 to the 31 need fewer than 64; 0 of 0. */
        long inverse(long a) {
            long last = p, next = a, lastFactor = 0, nextFactor = 1;
            for (int step = 0; step < 64 && next != 0; step++) {
                long quotient = last / next;
                long rest = last - quotient * next;
                long restFactor = lastFactor - quotient * nextFactor;
                last = next;
                next = rest;
                lastFactor = nextFactor;
                nextFactor = restFactor;
            }
            return lastFactor < 0 ? lastFactor + p : lastFactor;
        }

        /** Since p has rest 3 by 4, this power is a root wherever there is one; else NONE. */
        long evenRoot(long square) {
            long y = 1, squared = square;
            for (long rest = (p + 1) / 4; rest > 0; rest >>= 1) {
                if (rest % 2 == 1) {
                    y = product(y, squared);
                }
                squared = product(squared, squared);
            }
            if (product(y, y) != square) {
                return NONE;
            }
            return y % 2 == 0 ? y : p - y;
        }
    }

    /** The points: x the upper half, y the lower one, or NOWHERE. */
    private static final class Curve {
        final PrimeField field;
        final long p, r, h;
        final long base;
        // How many numbers the last text tried, which turned can't answer beside its point.
        int tried;

        Curve(PrimeField field, long r) {
            this.field = field;
            this.p = field.p;
            this.r = r;
            this.h = (field.p + 1) / r;
            this.base = turned(1);
        }

        boolean isKey(int key) {
            return key >= 1 && key < r;
        }

        long squareOfY(long x) {
            return (field.product(field.product(x, x), x) + x) % p;
        }

        boolean passes(long x, long y) {
            return field.product(y, y) == squareOfY(x);
        }

        boolean areOpposite(long a, long b) {
            return upper(a) == upper(b) && (lower(a) + lower(b)) % p == 0;
        }

        /** Of the line through two points, both somewhere, that are not opposite. */
        long slope(long a, long b) {
            long x = upper(a), y = lower(a);
            if (x == upper(b)) {
                long rise = (3 * field.product(x, x) + 1) % p;
                return field.product(rise, field.inverse(2 * y % p));
            }
            long rise = field.difference(lower(b), y);
            return field.product(rise, field.inverse(field.difference(upper(b), x)));
        }

        long sum(long a, long b) {
            if (a == NOWHERE) {
                return b;
            }
            if (b == NOWHERE) {
                return a;
            }
            if (areOpposite(a, b)) {
                return NOWHERE;
            }
            long s = slope(a, b);
            long x = field.difference(field.difference(field.product(s, s), upper(a)), upper(b));
            long y = field.difference(field.product(s, field.difference(upper(a), x)), lower(a));
            return joined(x, y);
        }

        /** There are p + 1 points, so the rest of k by that is enough, below 0 too. */
        long multiple(long k, long point) {
            long total = NOWHERE, doubled = point;
            for (long rest = Math.floorMod(k, p + 1); rest > 0; rest >>= 1) {
                if (rest % 2 == 1) {
                    total = sum(total, doubled);
                }
                doubled = sum(doubled, doubled);
            }
            return total;
        }

        /** The order divides p + 1: every prime of that is taken away as often as the point allows. */
        long orderOf(long point) {
            long order = p + 1, rest = p + 1;
            for (long q = 2; q * q <= rest; q++) {
                for (int i = 0; i < 32 && rest % q == 0; i++) {
                    rest /= q;
                    order = orderWithout(q, order, point);
                }
            }
            return rest > 1 ? orderWithout(rest, order, point) : order;
        }

        long orderWithout(long q, long order, long point) {
            return multiple(order / q, point) == NOWHERE ? order / q : order;
        }

        /** w modulo p, w being without sign. */
        long firstTried(long w) {
            return ((w >>> 1) % p * 2 + (w & 1)) % p;
        }

        long turned(long w) {
            long x = firstTried(w);
            for (int tries = 1; tries <= MOST_TRIES; tries++) {
                tried = tries;
                long y = field.evenRoot(squareOfY(x));
                // Above 0, since it is NONE of what is no square, and 0 of 0.
                long point = y > 0 ? multiple(h, joined(x, y)) : NOWHERE;
                if (point != NOWHERE) {
                    return point;
                }
                x = (x + 1) % p;
            }
            return NOWHERE;
        }

        long pointWritten(long w) {
            if (w == -1) {
                return NOWHERE;
            }
            if (w < 0 || w / 2 >= p) {
                return NO_POINT;
            }
            long x = w / 2;
            long y = field.evenRoot(squareOfY(x));
            if (y == NONE || (y == 0 && w % 2 == 1)) {
                return NO_POINT;
            }
            return joined(x, w % 2 == 1 ? p - y : y);
        }
    }

    /** Wide numbers, u the upper half and v the lower one, and the pairing into them. */
    private static final class Pairing {
        final Curve curve;
        final long p, r;

        Pairing(Curve curve) {
            this.curve = curve;
            this.p = curve.p;
            this.r = curve.r;
        }

        boolean takes(long point) {
            return curve.multiple(r, point) == NOWHERE;
        }

        long product(long a, long b) {
            long u = upper(a) * upper(b) - lower(a) * lower(b);
            long v = upper(a) * lower(b) + lower(a) * upper(b);
            return joined(Math.floorMod(u, p), v % p);
        }

        long raised(long a, long k) {
            long total = ONE, squared = a;
            for (long rest = k; rest > 0; rest >>= 1) {
                if (rest % 2 == 1) {
                    total = product(total, squared);
                }
                squared = product(squared, squared);
            }
            return total;
        }

        int bitsBehindHighest() {
            return 63 - Long.numberOfLeadingZeros(r);
        }

        /** A line for every bit behind the highest, and one more where that bit is 1. */
        int linesOf(long a, long b) {
            return a == NOWHERE || b == NOWHERE ? 0 : bitsBehindHighest() + Long.bitCount(r) - 1;
        }

        long of(long a, long b) {
            if (a == NOWHERE || b == NOWHERE) {
                return ONE;
            }
            long f = ONE, t = a;
            for (int bit = bitsBehindHighest() - 1; bit >= 0; bit--) {
                f = product(product(f, f), line(t, t, b));
                t = curve.sum(t, t);
                if ((r >> bit & 1) == 1) {
                    f = product(f, line(t, a, b));
                    t = curve.sum(t, a);
                }
            }
            return raised(f, (p * p - 1) / r);
        }

        /** l(a, b) at Q' of q. Where one is NOWHERE the document tells it only for both; the loop meets neither. */
        long line(long a, long b, long q) {
            if (a == NOWHERE || b == NOWHERE) {
                return ONE;
            }
            long across = curve.field.difference((p - upper(q)) % p, upper(a));
            if (curve.areOpposite(a, b)) {
                return joined(across, 0);
            }
            long risen = curve.field.product(curve.slope(a, b), across);
            return joined(curve.field.difference((p - lower(a)) % p, risen), lower(q));
        }

        /** Whether a signature is that of the texts w, w + 1 .. by the n keys of a row; one key is no other case. */
        boolean agree(long signature, long[] keys, int from, int n, long w) {
            if (!takes(signature) || !takeAll(keys, from, n)) {
                return false;
            }
            long all = ONE;
            for (int k = 0; k < n; k++) {
                all = product(all, of(curve.turned(w + k), keys[from + k]));
            }
            return of(signature, curve.base) == all;
        }

        boolean takeAll(long[] keys, int from, int n) {
            for (int k = from; k < from + n; k++) {
                if (keys[k] == NOWHERE || !takes(keys[k])) {
                    return false;
                }
            }
            return true;
        }
    }
}
