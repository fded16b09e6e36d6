import java.math.BigInteger;
import java.util.ArrayList;
import java.util.Collections;
import java.util.List;
import java.util.Random;

/**
 * Long runs of calls, each answered by the program and by a model that follows the document's words by other ways:
 * BigInteger throughout, roots and orders found by trying, lines counted as they are reckoned.
 */
public final class ModelRuns {
    private static final int[][] FIELDS = {
        {11, 3}, {19, 5}, {23, 3}, {43, 11}, {47, 3}, {59, 3}, {59, 5}, {67, 17}, {79, 5}, {83, 7}, {103, 13},
        {1019, 17}, {1019, 5}, {10007, 139}, {2147483587, 87481}, {2147483587, 17}, {2147483579, 3},
        {2147483543, 1132639}, {2147483423, 3}, {2147483171, 178956931}, {2147482867, 536870717},
    };
    private static final int[][] WRONG_FIELDS = {
        {11, 2}, {11, 5}, {11, 4}, {11, 6}, {11, 12}, {11, 1}, {11, 0}, {11, -3}, {7, 2}, {3, 2}, {0, 0}, {-1, 3},
        {13, 7}, {15, 3}, {35, 3}, {71, 3}, {107, 3}, {127, 3}, {2147483647, 3}, {2147483647, 2147483647},
        {2147483587, 19}, {2147483587, 361}, {2147483587, 323}, {-2147483648, -2147483648}, {59, 15}, {-5, 3},
    };
    private static int wrong = 0;
    private static long calls = 0;

    public static void main(String[] args) {
        for (int seed = 0; seed < 20 * FIELDS.length; seed++) {
            new Run(seed).go();
        }
        System.out.println(calls + " calls, " + wrong + " answers are not as due");
        if (wrong != 0) {
            System.exit(1);
        }
    }

    /** One object and one model, the same calls on both. */
    private static final class Run {
        final int seed;
        final Random random;
        final PairingDesk desk = new PairingDesk();
        final Model model = new Model();
        int done = 0;

        Run(int seed) {
            this.seed = seed;
            this.random = new Random(seed);
        }

        void go() {
            int[] first = FIELDS[seed % FIELDS.length];
            if (seed % 3 != 0) {
                due("field", desk.field(first[0], first[1]), model.field(first[0], first[1]));
            }
            // Well below the 512 calls that an object is used for.
            for (int i = 0; done < 490; i++) {
                if (seed % 3 == 0 && i == 20) {
                    due("field", desk.field(first[0], first[1]), model.field(first[0], first[1]));
                }
                one(random.nextInt(44));
                due("digest", desk.digest(), model.digest());
            }
        }

        void due(String call, long got, long want) {
            calls++;
            done++;
            if (got != want) {
                wrong++;
                System.out.println("run " + seed + ": " + call + " answered " + got + ", due is " + want);
            }
        }

        int index(int size) {
            return random.nextInt(40) == 0 ? pick(-1, size, Integer.MIN_VALUE, Integer.MAX_VALUE)
                : random.nextInt(4) == 0 ? random.nextInt(size) : random.nextInt(5);
        }

        int pick(int... of) {
            return of[random.nextInt(of.length)];
        }

        long text() {
            return random.nextInt(4) == 0 ? random.nextLong() : random.nextInt(12) - 6;
        }

        int number() {
            int p = Math.max(11, (int) model.p());
            return random.nextInt(20) == 0 ? pick(-1, p, p - 1, Integer.MIN_VALUE, Integer.MAX_VALUE)
                : random.nextInt(p);
        }

        int key() {
            int r = Math.max(3, (int) model.r());
            return random.nextInt(10) == 0 ? pick(0, -1, r, r - 1, Integer.MIN_VALUE) : 1 + random.nextInt(r - 1);
        }

        long count() {
            switch (random.nextInt(8)) {
                case 0: return random.nextLong();
                case 1: return Long.MIN_VALUE;
                case 2: return Long.MAX_VALUE;
                case 3: return model.r();
                case 4: return model.p() + 1;
                case 5: return -random.nextInt(50);
                default: return random.nextInt(50);
            }
        }

        void one(int kind) {
            int a = index(16), b = index(16), c = index(16), v = index(8), x = index(8), y = index(8);
            long w = text(), k = count();
            if (kind < 12) {
                fieldsAndPoints(kind, a, w);
            } else if (kind < 22) {
                sums(kind, a, b, c, k);
            } else if (kind < 32) {
                valuesOf(kind, v, x, y, k);
            } else {
                keys(kind, a, b, w);
            }
        }

        void fieldsAndPoints(int kind, int a, long w) {
            if (kind == 0) {
                int[] f = random.nextInt(6) == 0 ? FIELDS[random.nextInt(FIELDS.length)]
                    : WRONG_FIELDS[random.nextInt(WRONG_FIELDS.length)];
                due("field " + f[0] + " " + f[1], desk.field(f[0], f[1]), model.field(f[0], f[1]));
            } else if (kind == 1) {
                int what = pick(-1, 0, 1, 2, 3);
                due("told " + what, desk.told(what), model.told(what));
            } else if (kind == 2) {
                int n = number();
                due("root " + n, desk.root(n), model.root(n));
            } else if (kind < 6) {
                int n = number();
                int r = (int) model.rootOfCurve(n);
                int m = random.nextInt(3) == 0 ? number() : random.nextBoolean() && r > 0 ? (int) model.p() - r : r;
                due("point " + a + " " + n + " " + m, desk.point(a, n, m), model.point(a, n, m));
            } else if (kind == 6) {
                due("nowhere " + a, desk.nowhere(a), model.nowhere(a));
            } else if (kind < 10) {
                due("turn " + a + " " + w, desk.turn(a, w), model.turn(a, w));
            } else {
                long n = random.nextInt(5) == 0 ? text() : 2L * number() + random.nextInt(2);
                due("read " + a + " " + n, desk.read(a, n), model.read(a, n));
            }
        }

        void sums(int kind, int a, int b, int c, long k) {
            if (kind < 15) {
                due("add " + a + " " + b + " " + c, desk.add(a, b, c), model.add(a, b, c));
            } else if (kind < 18) {
                due("times " + a + " " + b + " " + k, desk.times(a, b, k), model.times(a, b, k));
            } else if (kind < 20) {
                int what = pick(0, 1, 0, 1, -1, 2);
                due("at " + a + " " + what, desk.at(a, what), model.at(a, what));
            } else if (kind == 20) {
                due("order " + a, desk.order(a), model.order(a));
            } else {
                due("write " + a, desk.write(a), model.write(a));
            }
        }

        void valuesOf(int kind, int v, int x, int y, long k) {
            if (kind < 26) {
                int a = index(16), b = index(16);
                due("pair " + v + " " + a + " " + b, desk.pair(v, a, b), model.pair(v, a, b));
            } else if (kind < 28) {
                due("multiply " + v + " " + x + " " + y, desk.multiply(v, x, y), model.multiply(v, x, y));
            } else if (kind < 30) {
                due("power " + v + " " + x + " " + k, desk.power(v, x, k), model.power(v, x, k));
            } else {
                int what = pick(0, 1, 0, 1, -1, 2);
                due("value " + v + " " + what, desk.value(v, what), model.value(v, what));
            }
        }

        void keys(int kind, int a, int b, long w) {
            int key = key();
            if (kind < 34) {
                due("open " + a + " " + key, desk.open(a, key), model.open(a, key));
            } else if (kind < 36) {
                due("sign " + a + " " + key + " " + w, desk.sign(a, key, w), model.sign(a, key, w));
            } else if (kind == 36) {
                due("holds " + a + " " + w + " " + b, desk.holds(a, w, b), model.holds(a, w, b));
            } else if (kind == 37) {
                signed(key, w);
            } else if (kind < 40) {
                int n = pick(0, 1, 2, 3, 8, 9, -1, Integer.MAX_VALUE);
                due("holdsAll " + a + " " + n + " " + w + " " + b, desk.holdsAll(a, n, w, b), model.holdsAll(a, n, w, b));
            } else {
                signedByMany(1 + random.nextInt(4), w);
            }
        }

        /** A key, its signature and the question that they answer with 1. */
        void signed(int key, long w) {
            due("open 8 " + key, desk.open(8, key), model.open(8, key));
            due("sign 9 " + key + " " + w, desk.sign(9, key, w), model.sign(9, key, w));
            due("holds 8 " + w + " 9", desk.holds(8, w, 9), model.holds(8, w, 9));
            due("holds 8 " + (w + 1) + " 9", desk.holds(8, w + 1, 9), model.holds(8, w + 1, 9));
        }

        void signedByMany(int n, long w) {
            due("nowhere 15", desk.nowhere(15), model.nowhere(15));
            for (int k = 0; k < n; k++) {
                int key = key();
                due("open " + (8 + k) + " " + key, desk.open(8 + k, key), model.open(8 + k, key));
                due("sign 14 " + key + " " + (w + k), desk.sign(14, key, w + k), model.sign(14, key, w + k));
                due("add 15 15 14", desk.add(15, 15, 14), model.add(15, 15, 14));
            }
            due("holdsAll 8 " + n + " " + w + " 15", desk.holdsAll(8, n, w, 15), model.holdsAll(8, n, w, 15));
            due("holdsAll 8 " + n + " " + w + " 14", desk.holdsAll(8, n, w, 14), model.holdsAll(8, n, w, 14));
        }
    }

    /** A point or a wide number; null is NOWHERE. */
    private record Two(BigInteger a, BigInteger b) {
    }

    private static final class Model {
        private static final BigInteger ZERO = BigInteger.ZERO, ONE = BigInteger.ONE, TWO = BigInteger.TWO;
        private static final Two WIDE_ONE = new Two(ONE, ZERO);
        private BigInteger p = null, r = null, h = null;
        private final Two[] slots = new Two[16];
        private final Two[] values = new Two[8];
        private int lines;
        private int tried;

        long p() {
            return p == null ? 11 : p.longValue();
        }

        long r() {
            return r == null ? 3 : r.longValue();
        }

        long rootOfCurve(int x) {
            if (p == null || x < 0 || x >= p()) {
                return 0;
            }
            BigInteger y = evenRoot(curveAt(of(x)));
            return y == null ? 0 : y.longValue();
        }

        static BigInteger of(long n) {
            return BigInteger.valueOf(n);
        }

        static boolean in(int n, int size) {
            return n >= 0 && n < size;
        }

        BigInteger curveAt(BigInteger x) {
            return x.pow(3).add(x).mod(p);
        }

        BigInteger evenRoot(BigInteger square) {
            if (p() < 20000) {
                for (long y = 0; y < p(); y += 2) {
                    if (y * y % p() == square.longValue()) {
                        return of(y);
                    }
                }
                return null;
            }
            if (square.signum() == 0) {
                return ZERO;
            }
            if (!square.modPow(p.subtract(ONE).shiftRight(1), p).equals(ONE)) {
                return null;
            }
            BigInteger y = square.modPow(p.add(ONE).shiftRight(2), p);
            return y.testBit(0) ? p.subtract(y) : y;
        }

        BigInteger slope(Two a, Two b) {
            return a.equals(b) ? a.a.pow(2).multiply(of(3)).add(ONE).multiply(a.b.shiftLeft(1).modInverse(p)).mod(p)
                : b.b.subtract(a.b).multiply(b.a.subtract(a.a).modInverse(p)).mod(p);
        }

        Two other(Two a) {
            return a == null ? null : new Two(a.a, a.b.negate().mod(p));
        }

        Two sum(Two a, Two b) {
            if (a == null || b == null) {
                return a == null ? b : a;
            }
            if (a.equals(other(b))) {
                return null;
            }
            BigInteger s = slope(a, b);
            BigInteger x = s.pow(2).subtract(a.a).subtract(b.a).mod(p);
            return new Two(x, s.multiply(a.a.subtract(x)).subtract(a.b).mod(p));
        }

        Two multiple(BigInteger k, Two a) {
            if (k.signum() < 0) {
                return multiple(k.negate(), other(a));
            }
            Two total = null;
            if (k.bitLength() < 10) {
                for (int i = 0; i < k.intValue(); i++) {
                    total = sum(total, a);
                }
                return total;
            }
            for (int bit = k.bitLength() - 1; bit >= 0; bit--) {
                total = sum(total, total);
                total = k.testBit(bit) ? sum(total, a) : total;
            }
            return total;
        }

        Two turned(long w) {
            BigInteger x = new BigInteger(Long.toUnsignedString(w)).mod(p);
            for (tried = 1; tried <= 1000; tried++) {
                BigInteger y = evenRoot(curveAt(x));
                if (y != null && y.signum() > 0) {
                    Two lifted = multiple(h, new Two(x, y));
                    if (lifted != null) {
                        return lifted;
                    }
                }
                x = x.add(ONE).mod(p);
            }
            throw new IllegalStateException("no point in a thousand");
        }

        Two product(Two a, Two b) {
            return new Two(a.a.multiply(b.a).subtract(a.b.multiply(b.b)).mod(p),
                a.a.multiply(b.b).add(a.b.multiply(b.a)).mod(p));
        }

        Two raised(Two a, BigInteger k) {
            Two total = WIDE_ONE;
            for (int bit = k.bitLength() - 1; bit >= 0; bit--) {
                total = product(total, total);
                total = k.testBit(bit) ? product(total, a) : total;
            }
            return total;
        }

        Two line(Two a, Two b, Two q) {
            lines++;
            if (a == null || b == null) {
                throw new IllegalStateException("a line from NOWHERE");
            }
            BigInteger across = q.a.negate().subtract(a.a);
            if (sum(a, b) == null) {
                return new Two(across.mod(p), ZERO);
            }
            return new Two(a.b.negate().subtract(slope(a, b).multiply(across)).mod(p), q.b);
        }

        Two pairing(Two a, Two b) {
            lines = 0;
            if (a == null || b == null) {
                return WIDE_ONE;
            }
            Two f = WIDE_ONE, t = a;
            for (char bit : r.toString(2).substring(1).toCharArray()) {
                f = product(product(f, f), line(t, t, b));
                t = sum(t, t);
                if (bit == '1') {
                    f = product(f, line(t, a, b));
                    t = sum(t, a);
                }
            }
            return raised(f, p.pow(2).subtract(ONE).divide(r));
        }

        boolean taken(Two a) {
            return multiple(r, a) == null;
        }

        long written(Two a) {
            return a == null ? -1 : 2 * a.a.longValue() + (a.b.testBit(0) ? 1 : 0);
        }

        int field(int newP, int newR) {
            BigInteger points = of(newP).add(ONE);
            if (newP < 11 || newP % 4 != 3 || !of(newP).isProbablePrime(60) || newR <= 2
                || !of(newR).isProbablePrime(60) || points.mod(of(newR)).signum() != 0
                || points.mod(of(newR).pow(2)).signum() == 0) {
                return -2;
            }
            p = of(newP);
            r = of(newR);
            h = points.divide(r);
            java.util.Arrays.fill(slots, null);
            java.util.Arrays.fill(values, WIDE_ONE);
            return h.intValue();
        }

        int told(int what) {
            return what < 0 || what > 2 ? -2 : p == null ? -3 : List.of(p, r, h).get(what).intValue();
        }

        int root(int x) {
            if (p == null || x < 0 || x >= p()) {
                return p == null ? -3 : -2;
            }
            BigInteger y = evenRoot(of(x));
            return y == null ? -1 : y.intValue();
        }

        int refused(boolean fits) {
            return p == null ? -3 : fits ? 0 : -2;
        }

        int kept(int slot, Two point) {
            slots[slot] = point;
            return point == null ? 0 : 1;
        }

        int valued(int value, Two wide) {
            values[value] = wide;
            return wide.equals(WIDE_ONE) ? 1 : 0;
        }

        int point(int slot, int x, int y) {
            int no = refused(in(slot, 16) && x >= 0 && x < p() && y >= 0 && y < p());
            if (no != 0) {
                return no;
            }
            return of(y).pow(2).mod(p).equals(curveAt(of(x))) ? kept(slot, new Two(of(x), of(y))) : -1;
        }

        int nowhere(int slot) {
            int no = refused(in(slot, 16));
            return no != 0 ? no : kept(slot, null) + 1;
        }

        int turn(int slot, long w) {
            int no = refused(in(slot, 16));
            if (no == 0) {
                kept(slot, turned(w));
            }
            return no != 0 ? no : tried;
        }

        int add(int slot, int a, int b) {
            int no = refused(in(slot, 16) && in(a, 16) && in(b, 16));
            return no != 0 ? no : kept(slot, sum(slots[a], slots[b]));
        }

        int times(int slot, int a, long k) {
            int no = refused(in(slot, 16) && in(a, 16));
            return no != 0 ? no : kept(slot, multiple(of(k), slots[a]));
        }

        int at(int slot, int what) {
            int no = refused(in(slot, 16) && in(what, 2));
            return no != 0 ? no : slots[slot] == null ? -1 : (what == 0 ? slots[slot].a : slots[slot].b).intValue();
        }

        int order(int slot) {
            int no = refused(in(slot, 16));
            if (no != 0) {
                return no;
            }
            long points = p() + 1;
            List<Long> divisors = new ArrayList<>();
            for (long d = 1; d * d <= points; d++) {
                if (points % d == 0) {
                    divisors.add(d);
                    divisors.add(points / d);
                }
            }
            Collections.sort(divisors);
            for (long d : divisors) {
                if (multiple(of(d), slots[slot]) == null) {
                    return (int) d;
                }
            }
            throw new IllegalStateException("no order");
        }

        long write(int slot) {
            int no = refused(in(slot, 16));
            return no != 0 ? no : written(slots[slot]);
        }

        int read(int slot, long w) {
            int no = refused(in(slot, 16));
            if (no != 0) {
                return no;
            }
            if (w == -1) {
                return kept(slot, null) + 1;
            }
            if (w < 0 || w > 2 * p() - 1) {
                return -1;
            }
            BigInteger x = of(w / 2), y = evenRoot(curveAt(x));
            if (y == null) {
                return -1;
            }
            for (Two each : new Two[] {new Two(x, y), other(new Two(x, y))}) {
                if (written(each) == w) {
                    return kept(slot, each);
                }
            }
            return -1;
        }

        int pair(int value, int a, int b) {
            int no = refused(in(value, 8) && in(a, 16) && in(b, 16));
            if (no != 0) {
                return no;
            }
            if (!taken(slots[a]) || !taken(slots[b])) {
                return -1;
            }
            values[value] = pairing(slots[a], slots[b]);
            return lines;
        }

        int multiply(int value, int a, int b) {
            int no = refused(in(value, 8) && in(a, 8) && in(b, 8));
            return no != 0 ? no : valued(value, product(values[a], values[b]));
        }

        int power(int value, int a, long k) {
            int no = refused(in(value, 8) && in(a, 8) && k >= 0);
            return no != 0 ? no : valued(value, raised(values[a], of(k)));
        }

        int value(int value, int what) {
            int no = refused(in(value, 8) && in(what, 2));
            return no != 0 ? no : (what == 0 ? values[value].a : values[value].b).intValue();
        }

        int open(int slot, int key) {
            int no = refused(in(slot, 16) && key >= 1 && key < r());
            return no != 0 ? no : kept(slot, multiple(of(key), turned(1)));
        }

        int sign(int slot, int key, long w) {
            int no = refused(in(slot, 16) && key >= 1 && key < r());
            return no != 0 ? no : kept(slot, multiple(of(key), turned(w)));
        }

        int holds(int a, long w, int s) {
            int no = refused(in(a, 16) && in(s, 16));
            if (no != 0) {
                return no;
            }
            return taken(slots[s]) && taken(slots[a]) && slots[a] != null
                && pairing(slots[s], turned(1)).equals(pairing(turned(w), slots[a])) ? 1 : 0;
        }

        int holdsAll(int from, int n, long w, int s) {
            int no = refused(in(from, 16) && n >= 1 && n <= 8 && (long) from + n <= 16 && in(s, 16));
            if (no != 0) {
                return no;
            }
            Two all = WIDE_ONE;
            for (int k = 0; k < n; k++) {
                if (slots[from + k] == null || !taken(slots[from + k])) {
                    return 0;
                }
                all = product(all, pairing(turned(w + k), slots[from + k]));
            }
            return taken(slots[s]) && pairing(slots[s], turned(1)).equals(all) ? 1 : 0;
        }

        long digest() {
            long hash = 17;
            for (Two point : slots) {
                hash = 31 * hash + written(point);
            }
            for (Two wide : values) {
                hash = wide == null ? 0 : 31 * (31 * hash + wide.a.longValue()) + wide.b.longValue();
            }
            return p == null ? -3 : hash;
        }
    }
}
