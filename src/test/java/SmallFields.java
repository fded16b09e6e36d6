import java.util.ArrayList;
import java.util.List;

/**
 * Every field of a small p gone through whole: which p and r there are, all roots, points, orders, texts, pairings and
 * signatures. What is due is found by trying and counting alone, with an addition of its own.
 */
public final class SmallFields {
    private static final int NONE = -1, BAD = -2;
    private static int wrong = 0;
    private static long asked = 0;

    private static void due(String call, long got, long want) {
        asked++;
        if (got != want) {
            wrong++;
            System.out.println(call + " answered " + got + ", due is " + want);
        }
    }

    public static void main(String[] args) {
        for (int p = -3; p < 400; p++) {
            for (int r = -3; r < 404; r++) {
                boolean fits = fits(p, r);
                due("field(" + p + ", " + r + ")", new PairingDesk().field(p, r), fits ? (p + 1) / r : BAD);
                if (fits && p < 110) {
                    new Small(p, r).go();
                }
            }
        }
        System.out.println(asked + " answers, " + wrong + " are not as due");
        if (wrong != 0) {
            System.exit(1);
        }
    }

    private static boolean isPrime(int n) {
        int divisors = 0;
        for (int d = 1; d <= n; d++) {
            divisors += n % d == 0 ? 1 : 0;
        }
        return divisors == 2;
    }

    private static boolean fits(int p, int r) {
        return p >= 11 && p % 4 == 3 && isPrime(p) && r > 2 && isPrime(r) && (p + 1) % r == 0 && (p + 1) % (r * r) != 0;
    }

    /** null is NOWHERE. */
    private record Point(int x, int y) {
    }

    private static final class Small {
        final int p, r, h;
        final String name;
        final List<Point> points = new ArrayList<>();
        final List<Point> ofR = new ArrayList<>();

        Small(int p, int r) {
            this.p = p;
            this.r = r;
            this.h = (p + 1) / r;
            this.name = "p " + p + ", r " + r + ": ";
            points.add(null);
            for (int x = 0; x < p; x++) {
                for (int y = 0; y < p; y++) {
                    if (y * y % p == (x * x * x + x) % p) {
                        points.add(new Point(x, y));
                    }
                }
            }
            for (Point each : points) {
                if (multiple(r, each) == null) {
                    ofR.add(each);
                }
            }
        }

        void go() {
            due(name + "points", points.size(), p + 1);
            due(name + "points that r times is NOWHERE", ofR.size(), r);
            roots();
            readsAndOrders();
            sums();
            texts();
            pairings();
            signatures();
        }

        PairingDesk desk() {
            PairingDesk desk = new PairingDesk();
            desk.field(p, r);
            return desk;
        }

        int inverse(int a) {
            int b = 1;
            while (a * b % p != 1) {
                b++;
            }
            return b;
        }

        Point sum(Point a, Point b) {
            if (a == null || b == null) {
                return a == null ? b : a;
            }
            if (a.x == b.x && (a.y + b.y) % p == 0) {
                return null;
            }
            int s = a.equals(b) ? (3 * a.x * a.x + 1) * inverse(2 * a.y % p) % p
                : (b.y - a.y + p) * inverse((b.x - a.x + p) % p) % p;
            int x = Math.floorMod(s * s - a.x - b.x, p);
            return new Point(x, Math.floorMod(s * (a.x - x) - a.y, p));
        }

        Point multiple(int k, Point a) {
            Point total = null;
            for (int i = 0; i < k; i++) {
                total = sum(total, a);
            }
            return total;
        }

        long written(Point a) {
            return a == null ? -1 : 2 * a.x + a.y % 2;
        }

        void put(PairingDesk desk, int slot, Point a) {
            due(name + "put " + a, a == null ? desk.nowhere(slot) : desk.point(slot, a.x, a.y), 1);
        }

        void roots() {
            PairingDesk desk = desk();
            for (int x = 0; x < p; x++) {
                int root = NONE;
                for (int y = 0; y < p; y += 2) {
                    root = y * y % p == x ? y : root;
                }
                due(name + "root " + x, desk.root(x), root);
            }
        }

        void readsAndOrders() {
            for (long w = -3; w < 2 * p + 3; w++) {
                PairingDesk desk = desk();
                put(desk, 0, new Point(0, 0));
                Point found = null;
                for (Point each : points) {
                    found = each != null && written(each) == w ? each : found;
                }
                boolean is = w == -1 || found != null;
                due(name + "read " + w, desk.read(0, w), is ? 1 : NONE);
                due(name + "write " + w, desk.write(0), is ? w : 0);
                int order = 1;
                for (Point at = found; at != null; at = sum(at, found)) {
                    order++;
                }
                due(name + "order of " + w, desk.order(0), is ? order : 2);
            }
        }

        void sums() {
            for (Point a : points) {
                for (Point b : points) {
                    PairingDesk desk = desk();
                    put(desk, 0, a);
                    put(desk, 1, b);
                    Point c = sum(a, b);
                    due(name + "add " + a + " " + b, desk.add(2, 0, 1), c == null ? 0 : 1);
                    due(name + "sum of " + a + " " + b, desk.write(2), written(c));
                }
                // k and k - (p + 1) TIMES are the same point, so that both sides of 0 are gone through.
                PairingDesk desk = desk();
                put(desk, 0, a);
                Point total = null;
                for (int k = 0; k <= p + 1; k++) {
                    due(name + k + " times " + a, desk.times(1, 0, k), total == null ? 0 : 1);
                    due(name + k + " times " + a, desk.write(1), written(total));
                    due(name + (k - p - 1) + " times " + a, desk.times(1, 0, k - p - 1), total == null ? 0 : 1);
                    due(name + (k - p - 1) + " times " + a, desk.write(1), written(total));
                    total = sum(total, a);
                }
            }
        }

        Point lifted(int x) {
            for (int y = 2; y < p; y += 2) {
                if (y * y % p == (x * x * x + x) % p) {
                    return multiple(h, new Point(x, y));
                }
            }
            return null;
        }

        Point turned(int w) {
            int x = w % p;
            while (lifted(x) == null) {
                x = (x + 1) % p;
            }
            return lifted(x);
        }

        void texts() {
            for (int w = 0; w < 2 * p; w++) {
                int tries = 1;
                while (lifted((w + tries - 1) % p) == null) {
                    tries++;
                }
                PairingDesk desk = desk();
                due(name + "turn " + w, desk.turn(0, w), tries);
                due(name + w + " turned", desk.write(0), written(turned(w)));
            }
        }

        /** e(a B, b B) is e(B, B) to the power a b, for all a and b; and its powers below r are not 1. */
        void pairings() {
            int lines = Integer.toBinaryString(r).length() - 1 + Integer.bitCount(r) - 1;
            Point base = turned(1);
            for (int a = 0; a < r; a++) {
                PairingDesk desk = desk();
                put(desk, 0, base);
                put(desk, 1, multiple(a, base));
                due(name + "e(B, B)", desk.pair(0, 0, 0), lines);
                due(name + "e(B, B) to " + a, desk.power(1, 0, a), a == 0 ? 1 : 0);
                for (int b = 0; b < r; b++) {
                    put(desk, 2, multiple(b, base));
                    due(name + "lines " + a + " " + b, desk.pair(2, 1, 2), a == 0 || b == 0 ? 0 : lines);
                    desk.power(3, 0, a * b);
                    due(name + "u of e " + a + " " + b, desk.value(2, 0), desk.value(3, 0));
                    due(name + "v of e " + a + " " + b, desk.value(2, 1), desk.value(3, 1));
                }
            }
            for (Point each : points) {
                PairingDesk desk = desk();
                put(desk, 0, each);
                int want = !ofR.contains(each) ? NONE : each == null ? 0 : lines;
                due(name + "pair of " + each + " and itself", desk.pair(0, 0, 0), want);
                due(name + "pair of " + each + " and NOWHERE", desk.pair(0, 0, 1), want == NONE ? NONE : 0);
            }
        }

        /** Of all points, one alone is the signature of a text by a key, and one alone that of two texts by two. */
        void signatures() {
            Point base = turned(1);
            for (int key = 1; key < r; key++) {
                PairingDesk desk = desk();
                int w = 3 * key, second = r - key;
                due(name + "open " + key, desk.open(0, key), 1);
                due(name + "the point of " + key, desk.write(0), written(multiple(key, base)));
                due(name + "open " + second, desk.open(1, second), 1);
                due(name + "sign " + key, desk.sign(2, key, w), 1);
                Point one = multiple(key, turned(w));
                Point two = sum(one, multiple(second, turned(w + 1)));
                due(name + "the signature by " + key, desk.write(2), written(one));
                for (Point each : points) {
                    boolean same = each == null ? one == null : each.equals(one);
                    boolean both = each == null ? two == null : each.equals(two);
                    put(desk, 3, each);
                    due(name + "holds, " + key + ", " + each, desk.holds(0, w, 3), same ? 1 : 0);
                    due(name + "holdsAll, " + key + ", " + each, desk.holdsAll(0, 2, w, 3), both ? 1 : 0);
                }
            }
        }
    }
}
