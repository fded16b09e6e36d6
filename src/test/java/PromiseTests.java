/**
 * For each promise ordinary inputs, the edges that the document names, and wrong inputs.
 *
 * Most answers are reckoned by hand for p = 11, r = 3, h = 4. Its points beside NOWHERE are (0, 0), (5, 3), (5, 8),
 * (7, 3), (7, 8), (8, 5), (8, 6), (9, 1), (9, 10), (10, 3), (10, 8); THE BASE is (5, 8), of ORDER 3, and
 * e(BASE, BASE) is 5 + 3 i.
 */
public final class PromiseTests {
    private static final int NONE = -1, BAD = -2, STATE = -3;
    private static final int[] NOT_SLOTS = {-1, 16, Integer.MIN_VALUE, Integer.MAX_VALUE};
    private static final int[] NOT_VALUES = {-1, 8, Integer.MIN_VALUE, Integer.MAX_VALUE};
    private static final int[] NOT_HALVES = {-1, 2, Integer.MIN_VALUE, Integer.MAX_VALUE};
    private static int wrong = 0;
    private static int promise = 0;

    private static void due(String call, long got, long want) {
        if (got != want) {
            wrong++;
            System.out.println("promise " + promise + ": " + call + " answered " + got + ", due is " + want);
        }
    }

    private static PairingDesk desk(int p, int r) {
        PairingDesk desk = new PairingDesk();
        due("field(" + p + ", " + r + ")", desk.field(p, r), (p + 1L) / r);
        return desk;
    }

    private static PairingDesk small() {
        return desk(11, 3);
    }

    /** A desk whose slots and values are not as at first. */
    private static PairingDesk used() {
        PairingDesk desk = small();
        desk.point(0, 5, 8);
        desk.point(1, 7, 3);
        desk.point(2, 5, 3);
        desk.pair(0, 0, 0);
        desk.pair(1, 0, 2);
        return desk;
    }

    private static void dueWide(String call, PairingDesk desk, int value, int u, int v) {
        due(call + ", u", desk.value(value, 0), u);
        due(call + ", v", desk.value(value, 1), v);
    }

    public static void main(String[] args) {
        Runnable[] tests = {
            PromiseTests::newObject, PromiseTests::field, PromiseTests::told, PromiseTests::root, PromiseTests::point,
            PromiseTests::nowhere, PromiseTests::turn, PromiseTests::add, PromiseTests::times, PromiseTests::at,
            PromiseTests::order, PromiseTests::write, PromiseTests::read, PromiseTests::pair, PromiseTests::multiply,
            PromiseTests::power, PromiseTests::value, PromiseTests::open, PromiseTests::sign, PromiseTests::holds,
            PromiseTests::holdsAll, PromiseTests::digest,
        };
        for (Runnable test : tests) {
            promise++;
            test.run();
        }
        promise = 0;
        stateAheadOfBad();
        refusalsChangeNothing();
        System.out.println(wrong == 0 ? "all promises hold" : wrong + " answers are not as due");
        if (wrong != 0) {
            System.exit(1);
        }
    }

    private static void newObject() {
        PairingDesk desk = new PairingDesk();
        due("told(0), no field", desk.told(0), STATE);
        due("digest(), no field", desk.digest(), STATE);
        dueAsAtFirst(small());
        PairingDesk one = small();
        one.open(0, 1);
        due("another object has no field", new PairingDesk().told(0), STATE);
        due("another object's slot", small().write(0), -1);
    }

    private static void dueAsAtFirst(PairingDesk desk) {
        for (int slot = 0; slot < 16; slot++) {
            due("write(" + slot + ") at first", desk.write(slot), -1);
        }
        for (int value = 0; value < 8; value++) {
            dueWide("value(" + value + ") at first", desk, value, 1, 0);
        }
    }

    private static void field() {
        int[][] fit = {{11, 3, 4}, {19, 5, 4}, {23, 3, 8}, {47, 3, 16}, {59, 3, 20}, {59, 5, 12}, {43, 11, 4},
            {2147483587, 87481, 24548}, {2147482867, 536870717, 4}, {2147483579, 3, 715827860}};
        for (int[] each : fit) {
            due("field(" + each[0] + ", " + each[1] + ")", new PairingDesk().field(each[0], each[1]), each[2]);
        }
        int[][] unfit = {{7, 2}, {3, 2}, {2, 3}, {0, 0}, {-1, 3}, {-5, 3}, {11, 2}, {11, 1}, {11, 0}, {11, -3}, {11, 4},
            {11, 5}, {11, 6}, {11, 12}, {13, 7}, {17, 3}, {29, 3}, {29, 5}, {15, 3}, {27, 7}, {35, 3}, {39, 5}, {59, 15},
            {71, 3}, {107, 3}, {199, 5}, {31, 3}, {2147483647, 2}, {2147483647, 3}, {2147483647, 2147483647},
            {2147483587, 19}, {2147483587, 361}, {2147483587, 323}, {Integer.MIN_VALUE, Integer.MIN_VALUE},
            {2147483639, 3}, {2147117567, 3}};
        for (int[] each : unfit) {
            due("field(" + each[0] + ", " + each[1] + ")", new PairingDesk().field(each[0], each[1]), BAD);
        }
        PairingDesk desk = used();
        due("field, a new one", desk.field(19, 5), 4);
        dueAsAtFirst(desk);
        desk = used();
        due("field, the same again", desk.field(11, 3), 4);
        dueAsAtFirst(desk);
        due("open, of the new field", desk.open(0, 1), 1);
        due("its base", desk.write(0), 10);
    }

    private static void told() {
        PairingDesk desk = desk(59, 5);
        int[] want = {59, 5, 12};
        for (int what = 0; what < 3; what++) {
            due("told(" + what + ")", desk.told(what), want[what]);
            due("told, no field", new PairingDesk().told(what), STATE);
        }
        for (int what : new int[] {-1, 3, Integer.MIN_VALUE, Integer.MAX_VALUE}) {
            due("told(" + what + ")", desk.told(what), BAD);
            due("told(" + what + "), no field: BAD is told first", new PairingDesk().told(what), BAD);
        }
    }

    private static void root() {
        PairingDesk desk = small();
        int[] want = {0, 10, NONE, 6, 2, 4, NONE, NONE, NONE, 8, NONE};
        for (int x = 0; x < want.length; x++) {
            due("root(" + x + ")", desk.root(x), want[x]);
        }
        for (int x : new int[] {-1, 11, Integer.MIN_VALUE, Integer.MAX_VALUE}) {
            due("root(" + x + ")", desk.root(x), BAD);
            due("root(" + x + "), no field", new PairingDesk().root(x), STATE);
        }
        PairingDesk large = desk(2147482867, 536870717);
        for (long y = 2; y < 2147482867L; y += 123456788) {
            due("root of " + y + " squared", large.root((int) (y * y % 2147482867L)), y);
            due("root of less than 0", large.root((int) (2147482867L - y * y % 2147482867L)), NONE);
        }
        due("root(p - 1)", large.root(2147482866), NONE);
        due("root(1)", large.root(1), 2147482866);
    }

    private static void point() {
        PairingDesk desk = small();
        int found = 0;
        for (int x = 0; x < 11; x++) {
            for (int y = 0; y < 11; y++) {
                boolean on = y * y % 11 == (x * x * x + x) % 11;
                found += on ? 1 : 0;
                due("nowhere(15)", desk.nowhere(15), 1);
                due("point(15, " + x + ", " + y + ")", desk.point(15, x, y), on ? 1 : NONE);
                due("its x", desk.at(15, 0), on ? x : NONE);
                due("its y", desk.at(15, 1), on ? y : NONE);
            }
        }
        due("points beside NOWHERE", found, 11);
        desk = small();
        desk.point(3, 9, 10);
        due("point off the curve", desk.point(3, 1, 1), NONE);
        due("the slot stays", desk.write(3), 18);
        int[] no = {-1, 11, Integer.MIN_VALUE, Integer.MAX_VALUE};
        for (int each : no) {
            due("point, x " + each, desk.point(3, each, 0), BAD);
            due("point, y " + each, desk.point(3, 0, each), BAD);
        }
        for (int slot : NOT_SLOTS) {
            due("point(" + slot + ")", desk.point(slot, 0, 0), BAD);
            due("point(" + slot + ") off the curve: BAD first", desk.point(slot, 1, 1), BAD);
        }
        PairingDesk large = desk(2147483587, 87481);
        due("point, large", large.point(0, 2147483586, 2147483586), NONE);
        due("read, large", large.read(0, 722020961L), 1);
        int x = large.at(0, 0), y = large.at(0, 1);
        due("point, large", large.point(1, x, y), 1);
        due("point, large, y + 1", large.point(1, x, (y + 1) % 2147483587), NONE);
    }

    private static void nowhere() {
        PairingDesk desk = small();
        for (int slot = 0; slot < 16; slot++) {
            due("point(" + slot + ")", desk.point(slot, 5, 3), 1);
            due("nowhere(" + slot + ")", desk.nowhere(slot), 1);
            due("write", desk.write(slot), -1);
            due("nowhere again", desk.nowhere(slot), 1);
        }
        desk.point(1, 5, 3);
        desk.nowhere(0);
        due("the next slot stays", desk.write(1), 11);
        for (int slot : NOT_SLOTS) {
            due("nowhere(" + slot + ")", desk.nowhere(slot), BAD);
        }
    }

    private static void turn() {
        PairingDesk desk = small();
        // 10: four times (10, 8) is NOWHERE, and x = 0 has the square 0; so both are passed over, around p.
        long[][] want = {{0, 6, 10}, {1, 5, 10}, {4, 2, 10}, {5, 1, 10}, {6, 2, 11}, {7, 1, 11}, {8, 1, 10}, {9, 1, 11},
            {10, 7, 10}, {11, 6, 10}, {21, 7, 10}, {-1, 2, 10}, {Long.MIN_VALUE, 1, 10}, {Long.MAX_VALUE, 1, 11}};
        for (long[] each : want) {
            due("turn(2, " + each[0] + ")", desk.turn(2, each[0]), each[1]);
            due("its point", desk.write(2), each[2]);
        }
        for (int slot : NOT_SLOTS) {
            due("turn(" + slot + ")", desk.turn(slot, 1), BAD);
        }
        PairingDesk large = desk(2147483171, 178956931);
        for (long w : new long[] {0, 1, 2, 3, 99, 2147483170, 2147483171, Long.MAX_VALUE - 999, Long.MIN_VALUE, -1001}) {
            int tries = large.turn(0, w);
            due("turn(" + w + ") tries", tries >= 1 && tries < 1000 ? 1 : 0, 1);
            due("turn(" + w + ") order", large.order(0), 178956931);
            due("turn further", large.turn(1, w + tries - 1), 1);
            due("the same", large.write(1), large.write(0));
        }
    }

    private static void add() {
        PairingDesk desk = small();
        desk.point(0, 5, 8);
        desk.point(1, 7, 8);
        desk.point(2, 0, 0);
        desk.point(4, 5, 3);
        due("add, one and the same", desk.add(5, 1, 1), 1);
        due("(7, 8) twice is (9, 1)", desk.write(5), 19);
        desk.point(6, 10, 8);
        due("add(7, 6, 6)", desk.add(7, 6, 6), 1);
        due("(10, 8) twice is (0, 0)", desk.write(7), 0);
        due("add, y and -y", desk.add(5, 0, 4), 0);
        due("write(5)", desk.write(5), -1);
        due("add, y is 0", desk.add(5, 2, 2), 0);
        due("add, two NOWHERE", desk.add(5, 3, 3), 0);
        due("add, NOWHERE first", desk.add(5, 3, 1), 1);
        due("write(5)", desk.write(5), 14);
        due("add, NOWHERE behind", desk.add(5, 0, 3), 1);
        due("write(5)", desk.write(5), 10);
        // (5, 8) and (7, 8): s = 0, x = -12 = 10, y = -8 = 3.
        due("add, two others", desk.add(5, 0, 1), 1);
        due("write(5)", desk.write(5), 21);
        due("add, the other way", desk.add(5, 1, 0), 1);
        due("write(5)", desk.write(5), 21);
        due("add, into one of them", desk.add(0, 0, 1), 1);
        due("write(0)", desk.write(0), 21);
        for (int slot : NOT_SLOTS) {
            due("add, slot " + slot, desk.add(slot, 0, 1), BAD);
            due("add, a " + slot, desk.add(0, slot, 1), BAD);
            due("add, b " + slot, desk.add(0, 1, slot), BAD);
        }
    }

    private static void times() {
        PairingDesk desk = small();
        desk.point(0, 7, 8);
        desk.nowhere(2);
        for (int k = 0; k < 40; k++) {
            due("times(1, 0, " + k + ")", desk.times(1, 0, k), k % 12 == 0 ? 0 : 1);
            due("is the sum", desk.write(1), desk.write(2));
            due("times(3, 0, -" + k + ")", desk.times(3, 0, -k), k % 12 == 0 ? 0 : 1);
            due("is the other one", desk.add(3, 3, 1), 0);
            desk.add(2, 2, 0);
        }
        due("times of NOWHERE", desk.times(4, 15, 7), 0);
        due("times into itself", desk.times(0, 0, 2), 1);
        due("(9, 1)", desk.write(0), 19);
        // (9, 1) has ORDER 6; the rests of the ends by 6 are 1 and -2.
        due("times, the highest", desk.times(5, 0, Long.MAX_VALUE), 1);
        due("write(5)", desk.write(5), 19);
        due("times, the lowest", desk.times(5, 0, Long.MIN_VALUE), 1);
        due("-2 times (9, 1) is (5, 8)", desk.write(5), 10);
        for (int slot : NOT_SLOTS) {
            due("times, slot " + slot, desk.times(slot, 0, 1), BAD);
            due("times, a " + slot, desk.times(0, slot, 1), BAD);
        }
    }

    private static void at() {
        PairingDesk desk = small();
        desk.point(15, 9, 10);
        due("at(15, 0)", desk.at(15, 0), 9);
        due("at(15, 1)", desk.at(15, 1), 10);
        due("at of NOWHERE", desk.at(0, 0), NONE);
        due("at of NOWHERE", desk.at(0, 1), NONE);
        for (int what : NOT_HALVES) {
            due("at(15, " + what + ")", desk.at(15, what), BAD);
            due("at of NOWHERE, " + what + ": BAD first", desk.at(0, what), BAD);
        }
        for (int slot : NOT_SLOTS) {
            due("at(" + slot + ", 0)", desk.at(slot, 0), BAD);
        }
    }

    private static void order() {
        PairingDesk desk = small();
        int[][] want = {{0, 0, 2}, {5, 3, 3}, {5, 8, 3}, {7, 3, 12}, {7, 8, 12}, {8, 5, 12}, {8, 6, 12}, {9, 1, 6},
            {9, 10, 6}, {10, 3, 4}, {10, 8, 4}};
        due("order of NOWHERE", desk.order(0), 1);
        for (int[] each : want) {
            desk.point(0, each[0], each[1]);
            due("order of " + each[0] + ", " + each[1], desk.order(0), each[2]);
        }
        for (int slot : NOT_SLOTS) {
            due("order(" + slot + ")", desk.order(slot), BAD);
        }
        // p + 1 is 80 and 504, with squares and cubes among its divisors.
        ordersByCounting(79, 5);
        ordersByCounting(503, 7);
        PairingDesk large = desk(2147482867, 536870717);
        large.turn(0, 1);
        large.point(1, 0, 0);
        due("add", large.add(2, 0, 1), 1);
        due("order, large", large.order(2), 2 * 536870717);
    }

    /** A new object for each point, since counting may take all the calls that one is used for. */
    private static void ordersByCounting(int p, int r) {
        for (int w = 0; w < 2 * p; w++) {
            PairingDesk desk = desk(p, r);
            if (desk.read(0, w) == 1) {
                int k = 1;
                while (desk.add(1, 1, 0) == 1) {
                    k++;
                }
                due("order of " + w + " modulo " + p, desk.order(0), k);
            }
        }
    }

    private static void write() {
        PairingDesk desk = small();
        due("write of NOWHERE", desk.write(0), -1);
        int[][] want = {{0, 0, 0}, {5, 3, 11}, {5, 8, 10}, {10, 3, 21}, {10, 8, 20}};
        for (int[] each : want) {
            desk.point(7, each[0], each[1]);
            due("write of " + each[0] + ", " + each[1], desk.write(7), each[2]);
        }
        for (int slot : NOT_SLOTS) {
            due("write(" + slot + ")", desk.write(slot), BAD);
        }
        PairingDesk large = desk(2147483587, 87481);
        large.turn(0, -1);
        large.times(2, 0, 2147483647);
        due("write, above 31 bits", large.write(2), 2199935723L);
    }

    private static void read() {
        PairingDesk desk = small();
        for (int w = 0; w < 22; w++) {
            boolean on = w == 0 || w / 2 == 5 || w / 2 >= 7;
            desk.nowhere(4);
            due("read(4, " + w + ")", desk.read(4, w), on ? 1 : NONE);
            due("write(4)", desk.write(4), on ? w : -1);
        }
        desk.point(4, 5, 3);
        for (long w : new long[] {-2, -12, -22, -21, 1, 2, 22, 23, 32, 1L << 32, (1L << 32) + 10, Long.MIN_VALUE, Long.MAX_VALUE}) {
            due("read(4, " + w + ")", desk.read(4, w), NONE);
            due("the slot stays", desk.write(4), 11);
        }
        due("read(4, -1)", desk.read(4, -1), 1);
        due("NOWHERE", desk.write(4), -1);
        for (int slot : NOT_SLOTS) {
            due("read(" + slot + ")", desk.read(slot, 10), BAD);
            due("read(" + slot + "), no point: BAD first", desk.read(slot, 1), BAD);
        }
        PairingDesk large = desk(2147483587, 87481);
        due("read, above 31 bits", large.read(0, 2199935723L), 1);
        due("write, above 31 bits", large.write(0), 2199935723L);
    }

    private static void pair() {
        PairingDesk desk = small();
        desk.point(0, 5, 8);
        desk.point(1, 5, 3);
        desk.point(3, 0, 0);
        desk.point(4, 7, 8);
        due("pair(0, 0, 0)", desk.pair(0, 0, 0), 2);
        dueWide("e(B, B)", desk, 0, 5, 3);
        due("pair(1, 0, 1)", desk.pair(1, 0, 1), 2);
        dueWide("e(B, -B)", desk, 1, 5, 8);
        due("pair(2, 1, 0)", desk.pair(2, 1, 0), 2);
        dueWide("e(-B, B)", desk, 2, 5, 8);
        due("pair(7, 1, 1)", desk.pair(7, 1, 1), 2);
        dueWide("e(-B, -B)", desk, 7, 5, 3);
        for (int[] each : new int[][] {{3, 0}, {0, 3}, {4, 0}, {0, 4}, {4, 4}, {4, 2}, {2, 3}}) {
            due("pair, not of r, " + each[0] + " " + each[1], desk.pair(0, each[0], each[1]), NONE);
            dueWide("the value stays", desk, 0, 5, 3);
        }
        for (int[] each : new int[][] {{2, 0}, {0, 2}, {2, 2}}) {
            desk.pair(0, 0, 0);
            due("pair, NOWHERE", desk.pair(0, each[0], each[1]), 0);
            dueWide("it is 1", desk, 0, 1, 0);
        }
        for (int no : NOT_VALUES) {
            due("pair, value " + no, desk.pair(no, 0, 0), BAD);
            due("pair, value " + no + ", not of r: BAD first", desk.pair(no, 3, 3), BAD);
        }
        for (int no : NOT_SLOTS) {
            due("pair, a " + no, desk.pair(0, no, 0), BAD);
            due("pair, b " + no, desk.pair(0, 0, no), BAD);
        }
        due("pair, slot 15", desk.pair(0, 15, 15), 0);
        pairsMultiply(1019, 17, 5);
        pairsMultiply(2147483587, 87481, 25);
        // 178956931 and 536870717 have 28 and 29 bits, 13 and 26 of them 1.
        pairsMultiply(2147483171, 178956931, 27 + 12);
        pairsMultiply(2147482867, 536870717, 28 + 25);
    }

    /** e(a P, b Q) is e(P, Q) to the power a b, and e(P, P) is not 1. */
    private static void pairsMultiply(int p, int r, int lines) {
        PairingDesk desk = desk(p, r);
        desk.turn(0, 12);
        desk.turn(1, 7777);
        for (int i = 1; i < 6; i++) {
            long a = 31L * i % r, b = 123457L * i % r;
            desk.times(2, 0, a);
            desk.times(3, 1, b);
            due("pair lines modulo " + p, desk.pair(0, 0, 1), lines);
            due("pair lines modulo " + p, desk.pair(1, 2, 3), a % r == 0 || b % r == 0 ? 0 : lines);
            desk.power(2, 0, a * b);
            dueWide("the power modulo " + p, desk, 1, desk.value(2, 0), desk.value(2, 1));
        }
        desk.pair(3, 0, 0);
        due("e(P, P) is not 1", desk.power(4, 3, 1), 0);
        due("its power r is", desk.power(4, 3, r), 1);
    }

    private static void multiply() {
        PairingDesk desk = used();
        due("multiply, one by one", desk.multiply(7, 6, 5), 1);
        due("multiply(7, 0, 0)", desk.multiply(7, 0, 0), 0);
        dueWide("(5 + 3 i) squared", desk, 7, 5, 8);
        due("multiply(7, 0, 7)", desk.multiply(7, 0, 7), 1);
        dueWide("cubed", desk, 7, 1, 0);
        due("multiply by 1", desk.multiply(6, 5, 1), 0);
        dueWide("it", desk, 6, 5, 8);
        due("multiply into itself", desk.multiply(0, 0, 0), 0);
        dueWide("it", desk, 0, 5, 8);
        for (int no : NOT_VALUES) {
            due("multiply, value " + no, desk.multiply(no, 0, 0), BAD);
            due("multiply, a " + no, desk.multiply(0, no, 0), BAD);
            due("multiply, b " + no, desk.multiply(0, 0, no), BAD);
        }
    }

    private static void power() {
        PairingDesk desk = used();
        int[][] want = {{1, 0}, {5, 3}, {5, 8}};
        for (int k = 0; k < 12; k++) {
            due("power(2, 0, " + k + ")", desk.power(2, 0, k), k % 3 == 0 ? 1 : 0);
            dueWide("power " + k, desk, 2, want[k % 3][0], want[k % 3][1]);
        }
        // The highest of 64 bits has the rest 1 by 3.
        due("power, the highest", desk.power(2, 0, Long.MAX_VALUE), 0);
        dueWide("it", desk, 2, 5, 3);
        due("power, the highest but one", desk.power(2, 0, Long.MAX_VALUE - 1), 1);
        due("power of 1", desk.power(2, 5, 77), 1);
        due("power into itself", desk.power(0, 0, 2), 0);
        dueWide("it", desk, 0, 5, 8);
        due("power, -1", desk.power(2, 0, -1), BAD);
        due("power, the lowest", desk.power(2, 0, Long.MIN_VALUE), BAD);
        for (int no : NOT_VALUES) {
            due("power, value " + no, desk.power(no, 0, 1), BAD);
            due("power, a " + no, desk.power(0, no, 1), BAD);
        }
    }

    private static void value() {
        PairingDesk desk = used();
        dueWide("value 0", desk, 0, 5, 3);
        dueWide("value 1", desk, 1, 5, 8);
        dueWide("value 7", desk, 7, 1, 0);
        for (int what : NOT_HALVES) {
            due("value(0, " + what + ")", desk.value(0, what), BAD);
        }
        for (int no : NOT_VALUES) {
            due("value(" + no + ", 0)", desk.value(no, 0), BAD);
        }
    }

    private static void open() {
        PairingDesk desk = small();
        due("open(15, 1)", desk.open(15, 1), 1);
        due("write(15)", desk.write(15), 10);
        due("open(15, 2)", desk.open(15, 2), 1);
        due("write(15)", desk.write(15), 11);
        for (int key : new int[] {0, 3, 4, -1, Integer.MIN_VALUE, Integer.MAX_VALUE}) {
            due("open(15, " + key + ")", desk.open(15, key), BAD);
        }
        for (int slot : NOT_SLOTS) {
            due("open(" + slot + ", 1)", desk.open(slot, 1), BAD);
        }
        PairingDesk large = desk(2147482867, 536870717);
        large.turn(0, 1);
        for (int key : new int[] {1, 2, 12345678, 536870716}) {
            large.times(1, 0, key);
            due("open(2, " + key + ")", large.open(2, key), 1);
            due("is so many times the base", large.write(2), large.write(1));
        }
        due("open(2, r)", large.open(2, 536870717), BAD);
    }

    private static void sign() {
        PairingDesk desk = small();
        long[][] want = {{1, 6, 11}, {2, 6, 10}, {1, 10, 10}, {2, 10, 11}, {1, -1, 10}, {2, -1, 11}};
        for (long[] each : want) {
            due("sign(3, " + each[0] + ", " + each[1] + ")", desk.sign(3, (int) each[0], each[1]), 1);
            due("write(3)", desk.write(3), each[2]);
        }
        for (int key : new int[] {0, 3, 4, -1, Integer.MIN_VALUE, Integer.MAX_VALUE}) {
            due("sign, key " + key, desk.sign(3, key, 5), BAD);
        }
        for (int slot : NOT_SLOTS) {
            due("sign, slot " + slot, desk.sign(slot, 1, 5), BAD);
        }
    }

    private static void holds() {
        PairingDesk desk = small();
        desk.open(0, 2);
        desk.sign(1, 2, 6);
        due("holds", desk.holds(0, 6, 1), 1);
        due("holds, another text of the same point", desk.holds(0, 7, 1), 1);
        due("holds, another text", desk.holds(0, 8, 1), 0);
        desk.open(2, 1);
        due("holds, another key", desk.holds(2, 6, 1), 0);
        due("holds, A is NOWHERE", desk.holds(15, 6, 1), 0);
        due("holds, both are NOWHERE", desk.holds(15, 6, 14), 0);
        due("holds, S is NOWHERE", desk.holds(0, 6, 15), 0);
        desk.point(3, 0, 0);
        desk.add(4, 1, 3);
        due("holds, S is not of r", desk.holds(0, 6, 4), 0);
        desk.add(5, 0, 3);
        due("holds, A is not of r", desk.holds(5, 6, 1), 0);
        for (int slot : NOT_SLOTS) {
            due("holds, a " + slot, desk.holds(slot, 6, 1), BAD);
            due("holds, s " + slot, desk.holds(0, 6, slot), BAD);
        }
        PairingDesk large = desk(2147483171, 178956931);
        for (int key = 1; key < 178956931; key += 17895692) {
            long w = key * 0x9E3779B97F4A7C15L;
            large.open(0, key);
            large.sign(1, key, w);
            large.sign(2, key, w + 1000);
            due("holds, large", large.holds(0, w, 1), 1);
            due("holds, large, another text", large.holds(0, w, 2), 0);
        }
    }

    private static void holdsAll() {
        PairingDesk desk = small();
        desk.open(0, 1);
        desk.open(1, 2);
        // 8 TURNED is (5, 8), 9 TURNED (5, 3): together (5, 8) and twice (5, 3), which is (5, 3).
        desk.point(2, 5, 3);
        due("holdsAll of two", desk.holdsAll(0, 2, 8, 2), 1);
        due("holdsAll of two, the other one", desk.holdsAll(0, 2, 8, 0), 0);
        due("holdsAll of one", desk.holdsAll(0, 1, 8, 0), 1);
        due("holdsAll of one, the other one", desk.holdsAll(0, 1, 8, 2), 0);
        due("holdsAll, the second alone", desk.holdsAll(1, 1, 9, 0), 1);
        // 4 and 5 TURNED are both (5, 8): once and twice that is NOWHERE, and so is slot 9.
        due("holdsAll, S is NOWHERE and right", desk.holdsAll(0, 2, 4, 9), 1);
        due("holdsAll, S is NOWHERE and wrong", desk.holdsAll(0, 2, 8, 9), 0);
        due("holdsAll, one of them is NOWHERE", desk.holdsAll(2, 2, 8, 2), 0);
        due("holdsAll, all of them are NOWHERE", desk.holdsAll(8, 8, 8, 9), 0);
        desk.point(10, 0, 0);
        desk.add(11, 2, 10);
        due("holdsAll, S is not of r", desk.holdsAll(0, 2, 8, 11), 0);
        desk.add(3, 0, 10);
        desk.add(4, 1, 10);
        due("holdsAll, two are not of r", desk.holdsAll(3, 2, 8, 2), 0);
        for (int n : new int[] {0, 9, -1, Integer.MIN_VALUE, Integer.MAX_VALUE}) {
            due("holdsAll, n " + n, desk.holdsAll(0, n, 8, 2), BAD);
            due("holdsAll, n " + n + " from 15", desk.holdsAll(15, n, 8, 2), BAD);
        }
        for (int slot : NOT_SLOTS) {
            due("holdsAll, from " + slot, desk.holdsAll(slot, 1, 8, 2), BAD);
            due("holdsAll, s " + slot, desk.holdsAll(0, 2, 8, slot), BAD);
        }
        due("holdsAll, from 9, n 8", desk.holdsAll(9, 8, 8, 2), BAD);
        due("holdsAll, from 8, n 8", desk.holdsAll(8, 8, 8, 2), 0);
        due("holdsAll, from 15, n 2", desk.holdsAll(15, 2, 8, 2), BAD);
        due("holdsAll, from 15, n 1", desk.holdsAll(15, 1, 8, 2), 0);
        manyInOne(0, 8, 5);
        manyInOne(8, 7, 1234567890123L);
        // The texts go on at 0 behind the highest number of 64 bits.
        manyInOne(0, 8, -3);
    }

    private static void manyInOne(int from, int n, long w) {
        PairingDesk desk = desk(2147483171, 178956931);
        int all = from == 0 ? 15 : 7;
        for (int k = 0; k < n; k++) {
            desk.open(from + k, 1000003 * (k + 1));
            desk.sign(all - 1, 1000003 * (k + 1), w + k);
            if (from == 0 || k > 0) {
                desk.add(all, all, all - 1);
            } else {
                desk.times(all, all - 1, 1);
            }
        }
        due("holdsAll, " + n + " from " + from, desk.holdsAll(from, n, w, all), 1);
        due("holdsAll, one fewer", desk.holdsAll(from, n - 1, w, all), 0);
        due("holdsAll, texts moved on", desk.holdsAll(from, n, w + 100, all), 0);
        desk.times(from, from, 2);
        due("holdsAll, a key is another", desk.holdsAll(from, n, w, all), 0);
    }

    private static void digest() {
        PairingDesk desk = small();
        due("digest at first", desk.digest(), -998104235516521719L);
        desk.point(0, 9, 10);
        desk.point(1, 5, 8);
        desk.point(15, 5, 3);
        desk.pair(0, 1, 1);
        desk.pair(7, 1, 15);
        long hash = 17;
        long[] slots = {18, 10, -1, -1, -1, -1, -1, -1, -1, -1, -1, -1, -1, -1, -1, 11};
        long[] values = {5, 3, 1, 0, 1, 0, 1, 0, 1, 0, 1, 0, 1, 0, 5, 8};
        for (long each : slots) {
            hash = 31 * hash + each;
        }
        for (long each : values) {
            hash = 31 * hash + each;
        }
        due("digest", desk.digest(), hash);
        due("digest again", desk.digest(), hash);
        due("digest, no field", new PairingDesk().digest(), STATE);
    }

    private static void stateAheadOfBad() {
        PairingDesk desk = new PairingDesk();
        for (int no : new int[] {0, -1, 16, Integer.MIN_VALUE, Integer.MAX_VALUE}) {
            due("root", desk.root(no), STATE);
            due("point", desk.point(no, no, no), STATE);
            due("nowhere", desk.nowhere(no), STATE);
            due("turn", desk.turn(no, no), STATE);
            due("add", desk.add(no, no, no), STATE);
            due("times", desk.times(no, no, no), STATE);
            due("at", desk.at(no, no), STATE);
            due("order", desk.order(no), STATE);
            due("write", desk.write(no), STATE);
            due("read", desk.read(no, no), STATE);
            due("pair", desk.pair(no, no, no), STATE);
            due("multiply", desk.multiply(no, no, no), STATE);
            due("power", desk.power(no, no, no), STATE);
            due("value", desk.value(no, no), STATE);
            due("open", desk.open(no, no), STATE);
            due("sign", desk.sign(no, no, no), STATE);
            due("holds", desk.holds(no, no, no), STATE);
            due("holdsAll", desk.holdsAll(no, no, no, no), STATE);
        }
        due("field, refused", desk.field(12, 3), BAD);
        due("still no field", desk.told(0), STATE);
    }

    private static void refusalsChangeNothing() {
        PairingDesk desk = used();
        long before = desk.digest();
        desk.field(13, 7);
        desk.field(71, 3);
        desk.root(11);
        desk.point(0, 1, 1);
        desk.point(0, 11, 0);
        desk.nowhere(16);
        desk.turn(-1, 5);
        desk.add(0, 1, 16);
        desk.times(0, 16, 2);
        desk.read(0, 1);
        desk.read(16, -1);
        desk.pair(0, 1, 1);
        desk.pair(0, 16, 1);
        desk.multiply(0, 0, 8);
        desk.power(0, 0, -1);
        desk.open(0, 3);
        desk.sign(0, 0, 5);
        desk.holds(0, 5, 16);
        desk.holdsAll(0, 9, 5, 1);
        due("digest behind refusals", desk.digest(), before);
        due("p behind refusals", desk.told(0), 11);
        due("r behind refusals", desk.told(1), 3);
        due("h behind refusals", desk.told(2), 4);
        desk.open(0, 1);
        due("the base behind refusals", desk.write(0), 10);
    }
}
