import java.lang.reflect.Constructor;
import java.lang.reflect.Field;
import java.lang.reflect.Method;
import java.math.BigInteger;

/**
 * For each sentence of the document that names a boundary (too small, too large, empty, full, a wrap-around, a refused
 * call) a test of its own, in the document's order; what fails is printed with that sentence.
 *
 * The points modulo 11, r = 3, are the multiples of G = (7, 8): 2 (9, 1), 3 (10, 8), 4 (5, 3), 5 (8, 6), 6 (0, 0),
 * 7 (8, 5), 8 (5, 8), 9 (10, 3), 10 (9, 10), 11 (7, 3), 12 NOWHERE. THE BASE is (5, 8), e of it and itself 5 + 3 i.
 * Answers of large fields were reckoned by another program.
 */
public final class EdgeTests {
    private static final int NONE = -1, BAD = -2, STATE = -3;
    private static final int LOWEST = Integer.MIN_VALUE, HIGHEST = Integer.MAX_VALUE;
    private static final int[] NO_SLOTS = {LOWEST, -1, 16, 17, HIGHEST};
    private static final int[] NO_VALUES = {LOWEST, -1, 8, 15, HIGHEST};
    private static final int[] NO_HALVES = {LOWEST, -1, 2, HIGHEST};
    // The highest p that any r fits.
    private static final int HIGH_P = 2147483587, HIGH_R = 87481;
    private static int wrong = 0;
    private static int tests = 0;
    private static String sentence = "";

    /** A call whose answer is asked for on an object that the test makes. */
    private interface Call {
        long on(PairingDesk desk);
    }

    private interface Test {
        void run() throws Exception;
    }

    private static void due(String call, long got, long want) {
        if (got != want) {
            wrong++;
            System.out.println(sentence + ": " + call + " answered " + got + ", due is " + want);
        }
    }

    private static void test(String where, String words, Test test) throws Exception {
        sentence = where + " \"" + words + "\"";
        tests++;
        test.run();
    }

    private static PairingDesk desk(int p, int r) {
        PairingDesk desk = new PairingDesk();
        due("field(" + p + ", " + r + ")", desk.field(p, r), (p + 1L) / r);
        return desk;
    }

    /** Modulo 11; slots 0, 1, 2, 3, 15 are (5, 8), (7, 8), (5, 3), (0, 0), (9, 10), values 0, 7 are 5 + 3 i, 5 + 8 i. */
    private static PairingDesk used() {
        PairingDesk desk = desk(11, 3);
        due("point(0, 5, 8)", desk.point(0, 5, 8), 1);
        due("point(1, 7, 8)", desk.point(1, 7, 8), 1);
        due("point(2, 5, 3)", desk.point(2, 5, 3), 1);
        due("point(3, 0, 0)", desk.point(3, 0, 0), 1);
        due("point(15, 9, 10)", desk.point(15, 9, 10), 1);
        due("pair(0, 0, 0)", desk.pair(0, 0, 0), 2);
        due("pair(7, 0, 2)", desk.pair(7, 0, 2), 2);
        return desk;
    }

    /** Each is answered so and changes nothing. */
    private static void refused(int answer, Call... calls) {
        for (int i = 0; i < calls.length; i++) {
            PairingDesk desk = used();
            long before = desk.digest();
            due("refused call " + i, calls[i].on(desk), answer);
            due("digest behind refused call " + i, desk.digest(), before);
            due("p behind refused call " + i, desk.told(0), 11);
            due("r behind refused call " + i, desk.told(1), 3);
            due("h behind refused call " + i, desk.told(2), 4);
        }
    }

    /** STATE without a FIELD; and it leaves no trace once there is one. */
    private static void refusedWithoutField(Call... calls) {
        for (int i = 0; i < calls.length; i++) {
            PairingDesk desk = new PairingDesk();
            due("call " + i + " without a field", calls[i].on(desk), STATE);
            due("told behind it", desk.told(0), STATE);
            due("field behind it", desk.field(11, 3), 4);
            due("digest behind it", desk.digest(), -998104235516521719L);
        }
    }

    private static void dueWide(String call, PairingDesk desk, int value, int u, int v) {
        due(call + ", u", desk.value(value, 0), u);
        due(call + ", v", desk.value(value, 1), v);
    }

    private static void dueField(int p, int r, int answer) {
        due("field(" + p + ", " + r + ")", new PairingDesk().field(p, r), answer);
    }

    private static void dueBadFields(int[][] fields) {
        for (int[] each : fields) {
            dueField(each[0], each[1], BAD);
        }
    }

    public static void main(String[] args) throws Exception {
        terms();
        field();
        sums();
        turned();
        pairings();
        keysAndWriting();
        promisesOfPoints();
        promisesOfValues();
        promisesOfKeys();
        System.out.println(tests + " sentences, " + (wrong == 0 ? "all hold" : wrong + " answers are not as due"));
        if (wrong != 0) {
            System.exit(1);
        }
    }

    // ---- what stands ahead of the promises

    private static void terms() throws Exception {
        test("What it is", "at most 512 calls", EdgeTests::fiveHundredTwelveCalls);
        test("Terms", "Numbers go from 0 on", EdgeTests::numbersFromZero);
        test("Terms", "the first of these that fits: BAD, STATE", EdgeTests::badAheadOfState);
        test("Terms", "What is refused changes nothing", EdgeTests::refusedChangesNothing);
        test("Terms", "points: STATE ahead of BAD", EdgeTests::stateAheadForPoints);
        test("Terms", "values: STATE ahead of BAD", EdgeTests::stateAheadForValues);
        test("Terms", "keys, signatures: STATE ahead of BAD", EdgeTests::stateAheadForKeys);
        test("Promise 1", "There is no FIELD", EdgeTests::newObjectHasNoField);
        test("Promise 1", "All 16 SLOTS have NOWHERE", EdgeTests::newSlots);
        test("Promise 1", "all 8 VALUES 1", EdgeTests::newValues);
        test("Promise 1", "as one comes", EdgeTests::objectsStandAlone);
    }

    private static void fiveHundredTwelveCalls() {
        PairingDesk desk = desk(11, 3);
        due("point(1, 7, 8)", desk.point(1, 7, 8), 1);
        // 508 is 4 more than 42 rounds of 12.
        for (int call = 1; call <= 508; call++) {
            due("add, call " + (call + 2), desk.add(0, 0, 1), call % 12 == 0 ? 0 : 1);
        }
        due("the 511th call", desk.write(0), 11);
        due("the 512th call", desk.holds(0, 9, 2), 0);
    }

    private static void numbersFromZero() {
        PairingDesk desk = used();
        due("slot 0", desk.write(0), 10);
        due("half 0 of slot 0", desk.at(0, 0), 5);
        due("half 0 of value 0", desk.value(0, 0), 5);
        due("told(0)", desk.told(0), 11);
        refused(BAD, d -> d.write(-1), d -> d.at(0, -1), d -> d.value(0, -1), d -> d.value(-1, 0), d -> d.told(-1));
    }

    private static void badAheadOfState() {
        for (int what : new int[] {LOWEST, -1, 3, HIGHEST}) {
            due("told(" + what + ") without a field", new PairingDesk().told(what), BAD);
        }
        PairingDesk desk = new PairingDesk();
        due("field(12, 3) without a field", desk.field(12, 3), BAD);
        due("told(0) behind it", desk.told(0), STATE);
    }

    private static void refusedChangesNothing() {
        refused(BAD, d -> d.field(13, 7), d -> d.field(71, 3), d -> d.field(11, 2), d -> d.field(19, 3), d -> d.field(0, 0));
        refused(BAD, d -> d.told(3), d -> d.root(11), d -> d.nowhere(16), d -> d.turn(16, 1), d -> d.order(16),
            d -> d.write(16), d -> d.read(16, -1), d -> d.add(0, 1, 16), d -> d.times(0, 16, 0), d -> d.at(16, 0));
        refused(BAD, d -> d.pair(0, 16, 4), d -> d.multiply(0, 7, 8), d -> d.power(0, 7, -1), d -> d.value(8, 0));
        refused(BAD, d -> d.open(0, 3), d -> d.sign(0, 0, 6), d -> d.holds(0, 5, 16), d -> d.holdsAll(0, 9, 5, 1));
        refused(NONE, d -> d.point(0, 1, 1), d -> d.read(0, 1), d -> d.pair(0, 1, 0), d -> d.at(4, 0), d -> d.root(2));
        PairingDesk desk = used();
        due("field, refused", desk.field(71, 3), BAD);
        due("open behind it", desk.open(4, 1), 1);
        due("its base is the old one", desk.write(4), 10);
    }

    private static void stateAheadForPoints() {
        refusedWithoutField(d -> d.point(16, 0, 0), d -> d.point(0, -1, 0), d -> d.point(0, 0, -1), d -> d.nowhere(-1),
            d -> d.turn(16, 1), d -> d.add(16, 0, 0), d -> d.add(0, -1, 0), d -> d.add(0, 0, 16), d -> d.times(-1, 0, 1),
            d -> d.times(0, 16, 1), d -> d.at(16, 0), d -> d.at(0, 2), d -> d.order(-1), d -> d.write(16),
            d -> d.read(16, 0), d -> d.read(HIGHEST, -1));
    }

    private static void stateAheadForValues() {
        refusedWithoutField(d -> d.pair(8, 0, 0), d -> d.pair(0, 16, 0), d -> d.pair(0, 0, -1), d -> d.multiply(8, 0, 0),
            d -> d.multiply(0, -1, 0), d -> d.multiply(0, 0, 8), d -> d.power(8, 0, 1), d -> d.power(0, 8, 1),
            d -> d.power(0, 0, -1), d -> d.value(8, 0), d -> d.value(0, 2));
    }

    private static void stateAheadForKeys() {
        refusedWithoutField(d -> d.open(16, 1), d -> d.open(0, 0), d -> d.sign(16, 1, 1), d -> d.sign(0, 0, 1),
            d -> d.holds(16, 1, 0), d -> d.holds(0, 1, 16), d -> d.holdsAll(16, 1, 1, 0), d -> d.holdsAll(0, 0, 1, 0),
            d -> d.holdsAll(0, 9, 1, 0), d -> d.holdsAll(15, 2, 1, 0), d -> d.holdsAll(0, 1, 1, 16));
    }

    private static void newObjectHasNoField() {
        refusedWithoutField(d -> d.told(0), d -> d.told(1), d -> d.told(2), d -> d.root(0), d -> d.point(0, 0, 0),
            d -> d.nowhere(0), d -> d.turn(0, 1), d -> d.add(0, 0, 0), d -> d.times(0, 0, 1), d -> d.at(0, 0),
            d -> d.order(0), d -> d.write(0), d -> d.read(0, -1), d -> d.pair(0, 0, 0), d -> d.multiply(0, 0, 0),
            d -> d.power(0, 0, 1), d -> d.value(0, 0), d -> d.open(0, 1), d -> d.sign(0, 1, 1), d -> d.holds(0, 1, 0),
            d -> d.holdsAll(0, 1, 1, 0), d -> d.digest());
    }

    private static void newSlots() {
        dueSlotsEmpty(desk(11, 3));
    }

    private static void dueSlotsEmpty(PairingDesk desk) {
        for (int slot = 0; slot < 16; slot++) {
            due("write(" + slot + ")", desk.write(slot), -1);
        }
        due("write(16)", desk.write(16), BAD);
    }

    private static void newValues() {
        dueValuesOne(desk(11, 3));
    }

    private static void dueValuesOne(PairingDesk desk) {
        for (int value = 0; value < 8; value++) {
            dueWide("value " + value, desk, value, 1, 0);
        }
        due("value(8, 0)", desk.value(8, 0), BAD);
    }

    private static void objectsStandAlone() {
        PairingDesk one = used();
        PairingDesk other = new PairingDesk();
        due("another object's field", other.told(0), STATE);
        due("field of the other", other.field(19, 5), 4);
        dueSlotsEmpty(other);
        dueValuesOne(other);
        due("p of the one", one.told(0), 11);
        due("slot 0 of the one", one.write(0), 10);
    }

    // ---- the field

    private static void field() throws Exception {
        test("Terms 1", "p .. from 11", EdgeTests::pTooSmall);
        test("Terms 1", "p .. to 2147483647", EdgeTests::pTooLarge);
        test("Terms 1", "p, a prime number", EdgeTests::pNotPrime);
        test("Terms 1", "with rest 3 by 4", EdgeTests::pOfAnotherRest);
        test("Terms 1", "its numbers are 0 .. p - 1", EdgeTests::numbersOfTheField);
        test("Terms 1", "reckoned modulo p", EdgeTests::reckonedModuloP);
        test("Terms 1", "there are p + 1", EdgeTests::countOfPoints);
        test("Terms 1", "r is .. above 2", EdgeTests::rTooSmall);
        test("Terms 1", "r is a prime number", EdgeTests::rNotPrime);
        test("Terms 1", "r .. divides p + 1", EdgeTests::rDoesNotDivide);
        test("Terms 1", "and r r does not", EdgeTests::rSquaredDivides);
        test("Terms 1", "h is p + 1 by r", EdgeTests::leastAndHighestH);
        test("Promise 2", "SLOTS, VALUES as at first", EdgeTests::fieldClearsAll);
        test("Promise 2", "BAD: they are not as told", EdgeTests::bothNotAsTold);
        test("Promise 3", "0 p, 1 r, 2 h. BAD", EdgeTests::toldBad);
        test("Promise 3", "STATE", EdgeTests::toldState);
        test("Promise 4", "the even one", EdgeTests::rootIsEven);
        test("Promise 4", "0 of 0", EdgeTests::rootOfZero);
        test("Promise 4", "NONE: it is no SQUARE", EdgeTests::rootOfNoSquare);
        test("Promise 4", "BAD: x", EdgeTests::rootBad);
        test("Promise 4", "STATE ahead of that", EdgeTests::rootState);
    }

    private static void pTooSmall() {
        for (int p = -40; p < 11; p++) {
            for (int r = -3; r < 42; r++) {
                dueField(p, r, BAD);
            }
        }
        dueBadFields(new int[][] {{LOWEST, 3}, {LOWEST, LOWEST}, {LOWEST + 3, 3}});
        dueField(11, 3, 4);
    }

    private static void pTooLarge() {
        // A prime, but p + 1 is a power of 2: no r fits the highest p.
        for (int r = -3; r < 200; r++) {
            dueField(2147483647, r, BAD);
        }
        dueBadFields(new int[][] {{2147483647, 2147483647}, {2147483647, LOWEST}, {2147483647, 1 << 30}});
        dueField(HIGH_P, HIGH_R, 24548);
        dueField(HIGH_P, 17, 126322564);
    }

    private static void pNotPrime() {
        dueBadFields(new int[][] {{15, 2}, {27, 7}, {39, 5}, {51, 13}, {55, 7}, {87, 11}, {91, 23}, {95, 3}, {187, 47},
            {343, 43}, {2147483643, 2089}, {2147483639, 3}, {2147483635, 536870909}, {2147483623, 11}});
        // 46337 times 46327: no divisor below the last ones that are tried.
        dueField(2146654199, 3, BAD);
        dueField(2146654199, 188303, BAD);
    }

    private static void pOfAnotherRest() {
        // All primes, and r divides p + 1 once.
        dueBadFields(new int[][] {{13, 7}, {29, 3}, {29, 5}, {41, 3}, {41, 7}, {37, 19}, {2147483629, 5}, {2147483629, 32771}});
        dueBadFields(new int[][] {{12, 13}, {14, 3}, {14, 5}, {20, 3}, {20, 7}});
    }

    private static void numbersOfTheField() {
        PairingDesk desk = desk(11, 3);
        due("root(0)", desk.root(0), 0);
        due("root(10)", desk.root(10), NONE);
        due("root(11)", desk.root(11), BAD);
        due("root(-1)", desk.root(-1), BAD);
        due("point(0, 10, 8)", desk.point(0, 10, 8), 1);
        due("point(0, 9, 10)", desk.point(0, 9, 10), 1);
        due("point(0, 11, 0)", desk.point(0, 11, 0), BAD);
        due("point(0, 0, 11)", desk.point(0, 0, 11), BAD);
    }

    private static void reckonedModuloP() {
        PairingDesk desk = desk(HIGH_P, HIGH_R);
        due("the highest x", desk.point(0, 2147483586, 1531308002), 1);
        due("its other y", desk.point(1, 2147483586, HIGH_P - 1531308002), 1);
        due("their sum", desk.add(2, 0, 1), 0);
        due("p + 1 times it", desk.times(2, 0, HIGH_P + 1L), 0);
        due("p times it", desk.times(2, 0, HIGH_P), 1);
        due("is the other one", desk.at(2, 1), HIGH_P - 1531308002);
    }

    private static void countOfPoints() {
        for (int[] each : new int[][] {{11, 3}, {19, 5}, {23, 3}, {43, 11}}) {
            int points = 1;
            for (int x = 0; x < each[0]; x++) {
                PairingDesk desk = desk(each[0], each[1]);
                for (int y = 0; y < each[0]; y++) {
                    points += desk.point(0, x, y) == 1 ? 1 : 0;
                }
            }
            due("points modulo " + each[0], points, each[0] + 1);
        }
    }

    private static void rTooSmall() {
        for (int r : new int[] {LOWEST, -12, -3, -1, 0, 1, 2}) {
            dueField(11, r, BAD);
            dueField(HIGH_P, r, BAD);
        }
        dueField(11, 3, 4);
    }

    private static void rNotPrime() {
        // Each divides p + 1, and its square does not.
        dueBadFields(new int[][] {{11, 4}, {11, 6}, {11, 12}, {59, 15}, {71, 9}, {107, 27}, {199, 25}, {503, 9}, {503, 63},
            {HIGH_P, 323}, {HIGH_P, 17 * HIGH_R}, {HIGH_P, 361}, {2147483563, 12538}});
        dueField(2147483563, 6269, 342556);
    }

    private static void rDoesNotDivide() {
        dueBadFields(new int[][] {{11, 5}, {11, 7}, {11, 11}, {11, 13}, {19, 3}, {19, 19}, {11, HIGHEST}, {HIGH_P, 3},
            {HIGH_P, HIGH_P}, {HIGH_P, HIGHEST}, {HIGH_P, 87491}});
    }

    private static void rSquaredDivides() {
        dueBadFields(new int[][] {{71, 3}, {107, 3}, {199, 5}, {503, 3}, {HIGH_P, 19}});
        dueField(503, 7, 72);
    }

    private static void leastAndHighestH() {
        dueField(11, 3, 4);
        dueField(2147482867, 536870717, 4);
        dueField(2147483579, 3, 715827860);
    }

    private static void fieldClearsAll() {
        PairingDesk desk = used();
        for (int slot = 0; slot < 16; slot++) {
            desk.point(slot, 5, 8);
        }
        for (int value = 0; value < 8; value++) {
            desk.pair(value, 0, 0);
        }
        due("the same field again", desk.field(11, 3), 4);
        dueSlotsEmpty(desk);
        dueValuesOne(desk);
        desk.open(0, 1);
        desk.pair(0, 0, 0);
        due("another field", desk.field(59, 5), 12);
        due("p", desk.told(0), 59);
        dueSlotsEmpty(desk);
        dueValuesOne(desk);
    }

    private static void bothNotAsTold() {
        dueBadFields(new int[][] {{0, 0}, {-1, -1}, {0, 3}, {11, 0}, {3, 11}, {12, 4}, {LOWEST, -1}, {HIGHEST, LOWEST}});
        refused(BAD, d -> d.field(0, 0), d -> d.field(3, 11), d -> d.field(11, 0));
    }

    private static void toldBad() {
        PairingDesk desk = desk(59, 5);
        due("told(0)", desk.told(0), 59);
        due("told(1)", desk.told(1), 5);
        due("told(2)", desk.told(2), 12);
        refused(BAD, d -> d.told(-1), d -> d.told(3), d -> d.told(LOWEST), d -> d.told(HIGHEST));
    }

    private static void toldState() {
        refusedWithoutField(d -> d.told(0), d -> d.told(1), d -> d.told(2));
    }

    private static void rootIsEven() {
        PairingDesk desk = desk(11, 3);
        // The roots of 1 are 1 and 10, those of 4 are 2 and 9: the even one is now the higher, now the lower.
        due("root(1)", desk.root(1), 10);
        due("root(4)", desk.root(4), 2);
        PairingDesk high = desk(HIGH_P, HIGH_R);
        due("root(1)", high.root(1), HIGH_P - 1);
        due("root(4)", high.root(4), 2);
    }

    private static void rootOfZero() {
        due("root(0)", desk(11, 3).root(0), 0);
        due("root(0)", desk(HIGH_P, HIGH_R).root(0), 0);
    }

    private static void rootOfNoSquare() {
        PairingDesk desk = desk(11, 3);
        for (int x : new int[] {2, 6, 7, 8, 10}) {
            due("root(" + x + ")", desk.root(x), NONE);
        }
        due("root(p - 1)", desk(HIGH_P, HIGH_R).root(HIGH_P - 1), NONE);
    }

    private static void rootBad() {
        refused(BAD, d -> d.root(-1), d -> d.root(11), d -> d.root(12), d -> d.root(LOWEST), d -> d.root(HIGHEST));
        PairingDesk high = desk(HIGH_P, HIGH_R);
        due("root(p)", high.root(HIGH_P), BAD);
        due("root, the highest", high.root(HIGHEST), BAD);
    }

    private static void rootState() {
        refusedWithoutField(d -> d.root(0), d -> d.root(-1), d -> d.root(LOWEST), d -> d.root(HIGHEST));
    }

    // ---- sums of points

    private static void sums() throws Exception {
        test("Terms 1", "NOWHERE and P is P", EdgeTests::nowhereAndAPoint);
        test("Terms 1", "x, y and x, p - y (y and -y) are NOWHERE", EdgeTests::aPointAndItsOther);
        test("Terms 1", "y and -y, y being 0", EdgeTests::twiceAPointOnTheAxis);
        test("Terms 1", "for one and the same POINT", EdgeTests::oneAndTheSame);
        test("Terms 1", "SUM of two POINTS, of each two that there are", EdgeTests::sumsGoAround);
        test("Terms 1", "0: NOWHERE", EdgeTests::zeroTimes);
        test("Terms 1", "below 0: of its other one", EdgeTests::belowZeroTimes);
        test("Terms 1", "k TIMES NOWHERE", EdgeTests::timesNowhere);
        test("Terms 1", "k of 64 bits", EdgeTests::timesTheEnds);
        test("Terms 1", "ORDER: the least k above 0", EdgeTests::leastAndHighestOrder);
        test("Terms 1", "ORDER, p + 1 having a prime more than once", EdgeTests::ordersAmongManyDivisors);
    }

    private static void nowhereAndAPoint() {
        PairingDesk desk = used();
        due("NOWHERE ahead", desk.add(5, 4, 1), 1);
        due("it", desk.write(5), 14);
        due("NOWHERE behind", desk.add(6, 1, 4), 1);
        due("it", desk.write(6), 14);
        due("two NOWHERE", desk.add(5, 4, 7), 0);
        due("it", desk.write(5), -1);
        due("NOWHERE and 0, 0", desk.add(5, 4, 3), 1);
        due("it", desk.write(5), 0);
    }

    private static void aPointAndItsOther() {
        PairingDesk desk = used();
        due("add(5, 0, 2)", desk.add(5, 0, 2), 0);
        due("it", desk.write(5), -1);
        due("add(0, 2, 0)", desk.add(0, 2, 0), 0);
        due("it", desk.write(0), -1);
    }

    private static void twiceAPointOnTheAxis() {
        PairingDesk desk = used();
        due("add(5, 3, 3)", desk.add(5, 3, 3), 0);
        due("it", desk.write(5), -1);
        due("times(5, 3, 2)", desk.times(5, 3, 2), 0);
        due("times(5, 3, 3)", desk.times(5, 3, 3), 1);
        due("it", desk.write(5), 0);
        due("times(5, 3, -1)", desk.times(5, 3, -1), 1);
        due("0 and -0 are one", desk.at(5, 1), 0);
    }

    private static void oneAndTheSame() {
        PairingDesk desk = used();
        due("add(5, 1, 1)", desk.add(5, 1, 1), 1);
        due("it is (9, 1)", desk.write(5), 19);
        due("point(6, 7, 8)", desk.point(6, 7, 8), 1);
        due("the same in another slot", desk.add(5, 1, 6), 1);
        due("it is (9, 1)", desk.write(5), 19);
        due("point(6, 10, 8)", desk.point(6, 10, 8), 1);
        due("add(5, 6, 6)", desk.add(5, 6, 6), 1);
        due("it is (0, 0)", desk.write(5), 0);
    }

    private static void sumsGoAround() {
        PairingDesk desk = used();
        long[] written = {-1, 14, 19, 20, 11, 16, 0, 17, 10, 21, 18, 15};
        for (int a = 0; a < 12; a++) {
            for (int b = 0; b < 12; b++) {
                PairingDesk each = desk(11, 3);
                due("read", each.read(0, written[a]), 1);
                due("read", each.read(1, written[b]), 1);
                due("add of " + a + " and " + b, each.add(2, 0, 1), (a + b) % 12 == 0 ? 0 : 1);
                due("the sum of " + a + " and " + b, each.write(2), written[(a + b) % 12]);
            }
        }
        due("12 times G", desk.times(4, 1, 12), 0);
    }

    private static void zeroTimes() {
        PairingDesk desk = used();
        due("times(1, 1, 0)", desk.times(1, 1, 0), 0);
        due("it", desk.write(1), -1);
        due("times(4, 3, 0)", desk.times(4, 3, 0), 0);
    }

    private static void belowZeroTimes() {
        PairingDesk desk = used();
        due("times(4, 1, -1)", desk.times(4, 1, -1), 1);
        due("it is (7, 3)", desk.write(4), 15);
        due("times(4, 1, -11)", desk.times(4, 1, -11), 1);
        due("it is (7, 8)", desk.write(4), 14);
        due("times(4, 1, -12)", desk.times(4, 1, -12), 0);
        due("times(4, 1, -13)", desk.times(4, 1, -13), 1);
        due("it is (7, 3)", desk.write(4), 15);
    }

    private static void timesNowhere() {
        PairingDesk desk = used();
        for (long k : new long[] {0, 1, -1, 7, Long.MIN_VALUE, Long.MAX_VALUE}) {
            due("times(5, 4, " + k + ")", desk.times(5, 4, k), 0);
            due("it", desk.write(5), -1);
        }
    }

    private static void timesTheEnds() {
        PairingDesk desk = used();
        // The rests by 12 of the highest and the lowest are 7 and -8.
        due("the highest", desk.times(4, 1, Long.MAX_VALUE), 1);
        due("it is 7 times", desk.write(4), 17);
        due("the lowest", desk.times(4, 1, Long.MIN_VALUE), 1);
        due("it is 4 times", desk.write(4), 11);
        due("the lowest but one", desk.times(4, 1, Long.MIN_VALUE + 1), 1);
        due("it is 5 times", desk.write(4), 16);
        due("above 32 bits", desk.times(4, 1, 1L << 32), 1);
        due("it is 4 times", desk.write(4), 11);
    }

    private static void leastAndHighestOrder() {
        PairingDesk desk = used();
        due("NOWHERE", desk.order(4), 1);
        due("(0, 0)", desk.order(3), 2);
        due("(5, 8)", desk.order(0), 3);
        due("G, p + 1", desk.order(1), 12);
        PairingDesk high = desk(HIGH_P, HIGH_R);
        int highest = 0;
        for (int x = 1; x < 40; x++) {
            if (high.read(0, 2L * x) == 1) {
                highest = Math.max(highest, high.order(0));
            }
        }
        due("p + 1 of the highest field", highest, HIGH_P + 1);
    }

    private static void ordersAmongManyDivisors() {
        // p + 1 is 4 3 49, the square being that of its highest prime; 16 5; 8 9 7; 2 to the 21 by 7.
        ordersByDivisors(587, 3, 587);
        ordersByDivisors(79, 5, 79);
        ordersByDivisors(503, 7, 503);
        ordersByDivisors(14680063, 7, 200);
    }

    /** The least divisor of p + 1 that takes a point to NOWHERE, for the points with x below a limit. */
    private static void ordersByDivisors(int p, int r, int limit) {
        for (int x = 0; x < limit; x++) {
            PairingDesk desk = desk(p, r);
            if (desk.read(0, 2L * x) == 1) {
                long least = 1;
                while ((p + 1L) % least != 0 || desk.times(1, 0, least) == 1) {
                    least++;
                }
                due("order of x = " + x + " modulo " + p, desk.order(0), least);
            }
        }
    }

    // ---- texts

    private static void turned() throws Exception {
        test("Terms 1", "64 bits, without sign", EdgeTests::textsWithoutSign);
        test("Terms 1", "x = w modulo p", EdgeTests::textsModuloP);
        test("Terms 1", "then x + 1, and so on (modulo p)", EdgeTests::triesGoAround);
        test("Terms 1", "a SQUARE above 0", EdgeTests::triesPassOverZero);
        test("Terms 1", "and h TIMES x, y .. is not NOWHERE", EdgeTests::triesPassOverNowhere);
        test("Terms 1", "y the one of its two roots that is even", EdgeTests::triesTakeTheEvenRoot);
        test("Terms 1", "1000 numbers at most; if there is none: NOWHERE", EdgeTests::thousandTries);
        test("Terms 1", "THE BASE: 1 TURNED", EdgeTests::baseIsOneTurned);
        test("Promise 7", "how many numbers x were tried", EdgeTests::triesCounted);
        test("Promise 7", "BAD", EdgeTests::turnBad);
    }

    private static void dueTurned(PairingDesk desk, long w, int tries, long written) {
        due("turn(9, " + w + ")", desk.turn(9, w), tries);
        due("what " + w + " turned into", desk.write(9), written);
    }

    private static void textsWithoutSign() {
        PairingDesk high = desk(HIGH_P, HIGH_R);
        dueTurned(high, -1, 1, 722020961);
        dueTurned(high, -2, 1, 753189570);
        dueTurned(high, Long.MIN_VALUE, 2, 460660244);
        dueTurned(high, Long.MIN_VALUE + 1, 1, 460660244);
        dueTurned(high, Long.MAX_VALUE, 1, 102394497);
        dueTurned(high, 0, 3, 19758600);
        dueTurned(high, 4294967295L, 2, 3243975511L);
        dueTurned(high, 4294967296L, 1, 3243975511L);
    }

    private static void textsModuloP() {
        PairingDesk high = desk(HIGH_P, HIGH_R);
        dueTurned(high, HIGH_P - 1, 4, 19758600);
        dueTurned(high, HIGH_P, 3, 19758600);
        dueTurned(high, HIGH_P + 1L, 2, 19758600);
        dueTurned(high, 2L * HIGH_P - 1, 4, 19758600);
        PairingDesk desk = desk(11, 3);
        dueTurned(desk, 10, 7, 10);
        dueTurned(desk, 11, 6, 10);
        dueTurned(desk, 12, 5, 10);
    }

    private static void triesGoAround() {
        // 10, 0, 1 .. 5 modulo 11; 22, 0 .. 9 modulo 23; 2838 .. 2866 modulo 3011.
        dueTurned(desk(11, 3), 10, 7, 10);
        dueTurned(desk(23, 3), 22, 11, 37);
        dueTurned(desk(3011, 3), 2838, 29, 299);
    }

    private static void triesPassOverZero() {
        // 0, 0 is a point, but its square is not above 0.
        PairingDesk desk = desk(11, 3);
        due("point(0, 0, 0)", desk.point(0, 0, 0), 1);
        dueTurned(desk, 0, 6, 10);
    }

    private static void triesPassOverNowhere() {
        PairingDesk desk = desk(11, 3);
        due("point(0, 10, 8)", desk.point(0, 10, 8), 1);
        due("h times it", desk.times(0, 0, 4), 0);
        dueTurned(desk, 10, 7, 10);
    }

    private static void triesTakeTheEvenRoot() {
        // 4 times (7, 8) is (5, 3), 4 times (7, 3) would be (5, 8).
        PairingDesk desk = desk(11, 3);
        dueTurned(desk, 7, 1, 11);
        dueTurned(desk, 5, 1, 10);
        dueTurned(desk, 8, 1, 10);
        dueTurned(desk, 9, 1, 11);
    }

    /**
     * No field is known where a text tries so many; so the curve inside is made with r = 1, where h TIMES every point is
     * NOWHERE.
     */
    private static void thousandTries() throws Exception {
        Class<?> fieldClass = Class.forName("PairingDesk$PrimeField");
        Class<?> curveClass = Class.forName("PairingDesk$Curve");
        Constructor<?> newField = fieldClass.getDeclaredConstructor(long.class);
        Constructor<?> newCurve = curveClass.getDeclaredConstructor(fieldClass, long.class);
        Method turned = curveClass.getDeclaredMethod("turned", long.class);
        Field tried = curveClass.getDeclaredField("tried");
        newField.setAccessible(true);
        newCurve.setAccessible(true);
        turned.setAccessible(true);
        tried.setAccessible(true);
        Object curve = newCurve.newInstance(newField.newInstance(11L), 1L);
        due("a text that turns into none", (Long) turned.invoke(curve, 5L), -1);
        due("numbers tried", tried.getInt(curve), 1000);
    }

    private static void baseIsOneTurned() {
        for (int[] each : new int[][] {{11, 3}, {19, 5}, {23, 3}, {HIGH_P, HIGH_R}, {2147482867, 536870717}}) {
            PairingDesk desk = desk(each[0], each[1]);
            desk.turn(0, 1);
            due("open(1, 1)", desk.open(1, 1), 1);
            due("the base", desk.write(1), desk.write(0));
        }
        PairingDesk high = desk(HIGH_P, HIGH_R);
        due("open(0, 1)", high.open(0, 1), 1);
        due("the base", high.write(0), 19758600);
    }

    private static void triesCounted() {
        PairingDesk desk = desk(11, 3);
        int[] tries = {6, 5, 4, 3, 2, 1, 2, 1, 1, 1, 7};
        for (int w = 0; w < 11; w++) {
            due("turn(0, " + w + ")", desk.turn(0, w), tries[w]);
            due("turn(15, " + w + ")", desk.turn(15, w), tries[w]);
        }
        due("turn behind many tries", desk.turn(0, 5), 1);
    }

    private static void turnBad() {
        for (int slot : NO_SLOTS) {
            refused(BAD, d -> d.turn(slot, 1), d -> d.turn(slot, -1));
        }
    }

    // ---- pairings

    private static void pairings() throws Exception {
        test("Terms 2", "1, if one is NOWHERE", EdgeTests::pairWithNowhere);
        test("Terms 2", "for the bits of r behind its highest", EdgeTests::pairOfLeastAndHighestR);
        test("Terms 2", "a line straight up", EdgeTests::pairOfOpposites);
        test("Terms 2", "e(a P, b Q) is e(P, Q) to the power a b", EdgeTests::pairOfMultiples);
        test("Terms 2", "e(P, P) is not 1", EdgeTests::pairOfOne);
        test("Promise 14", "how many lines l were reckoned", EdgeTests::linesCounted);
        test("Promise 14", "BAD", EdgeTests::pairBad);
        test("Promise 14", "NONE: r TIMES one of them is not NOWHERE (the VALUE stays)", EdgeTests::pairNone);
        test("Promise 14", "BAD ahead of NONE", EdgeTests::pairBadAheadOfNone);
    }

    private static void pairWithNowhere() {
        for (int[] each : new int[][] {{4, 0}, {0, 4}, {4, 4}}) {
            PairingDesk desk = used();
            due("pair(0, " + each[0] + ", " + each[1] + ")", desk.pair(0, each[0], each[1]), 0);
            dueWide("it", desk, 0, 1, 0);
        }
    }

    private static void pairOfLeastAndHighestR() {
        PairingDesk desk = used();
        due("r = 3", desk.pair(1, 0, 0), 2);
        dueWide("it", desk, 1, 5, 3);
        PairingDesk high = desk(HIGH_P, HIGH_R);
        high.turn(0, -1);
        high.turn(1, Long.MAX_VALUE);
        due("r = 87481", high.pair(0, 0, 1), 25);
        dueWide("it", high, 0, 1577217542, 581080640);
        PairingDesk highest = desk(2147482867, 536870717);
        highest.open(0, 1);
        due("r = 536870717", highest.pair(0, 0, 0), 53);
        due("to the power r - 1", highest.power(1, 0, 536870716), 0);
        due("to the power r", highest.multiply(1, 1, 0), 1);
    }

    private static void pairOfOpposites() {
        // The last line of every loop is straight up; with r = 3 it follows the only other one.
        PairingDesk desk = used();
        due("pair(1, 0, 2)", desk.pair(1, 0, 2), 2);
        dueWide("e(B, -B)", desk, 1, 5, 8);
        due("pair(1, 2, 0)", desk.pair(1, 2, 0), 2);
        dueWide("e(-B, B)", desk, 1, 5, 8);
        due("pair(1, 2, 2)", desk.pair(1, 2, 2), 2);
        dueWide("e(-B, -B)", desk, 1, 5, 3);
    }

    private static void pairOfMultiples() {
        PairingDesk desk = desk(1019, 17);
        desk.turn(0, 1);
        desk.turn(1, 2);
        desk.pair(0, 0, 1);
        dueWide("e(P, Q)", desk, 0, 842, 512);
        for (int k : new int[] {0, 1, 2, 15, 16, 17, 18}) {
            boolean nowhere = k % 17 == 0 || (18 - k) % 17 == 0;
            due("times(2, 0, " + k + ")", desk.times(2, 0, k), k % 17 == 0 ? 0 : 1);
            due("times(3, 1, " + (18 - k) + ")", desk.times(3, 1, 18 - k), (18 - k) % 17 == 0 ? 0 : 1);
            due("lines, " + k, desk.pair(1, 2, 3), nowhere ? 0 : 5);
            desk.power(2, 0, k * (18 - k));
            dueWide("power " + k, desk, 1, desk.value(2, 0), desk.value(2, 1));
        }
    }

    private static void pairOfOne() {
        for (int[] each : new int[][] {{11, 3}, {19, 5}, {1019, 17}, {HIGH_P, HIGH_R}, {2147482867, 536870717}}) {
            PairingDesk desk = desk(each[0], each[1]);
            desk.open(0, each[1] - 1);
            desk.pair(0, 0, 0);
            due("e(P, P) modulo " + each[0], desk.power(1, 0, 1), 0);
            due("to the power r", desk.power(1, 0, each[1]), 1);
        }
    }

    private static void linesCounted() {
        // r 3 is 11, 5 is 101, 7 is 111, 17 is 10001: a line a bit behind the highest, and one more for each 1.
        for (int[] each : new int[][] {{11, 3, 2}, {19, 5, 3}, {83, 7, 4}, {1019, 17, 5}, {HIGH_P, HIGH_R, 25}}) {
            PairingDesk desk = desk(each[0], each[1]);
            desk.open(0, 1);
            desk.open(1, 2);
            due("lines, r = " + each[1], desk.pair(0, 0, 1), each[2]);
            due("lines, r = " + each[1] + ", NOWHERE", desk.pair(0, 0, 2), 0);
        }
    }

    private static void pairBad() {
        for (int value : NO_VALUES) {
            refused(BAD, d -> d.pair(value, 0, 0));
        }
        for (int slot : NO_SLOTS) {
            refused(BAD, d -> d.pair(1, slot, 0), d -> d.pair(1, 0, slot));
        }
    }

    private static void pairNone() {
        refused(NONE, d -> d.pair(0, 1, 0), d -> d.pair(0, 0, 1), d -> d.pair(0, 1, 1), d -> d.pair(0, 3, 0),
            d -> d.pair(7, 0, 3), d -> d.pair(7, 4, 3), d -> d.pair(7, 3, 4), d -> d.pair(0, 15, 15));
    }

    private static void pairBadAheadOfNone() {
        refused(BAD, d -> d.pair(8, 1, 1), d -> d.pair(0, 1, 16), d -> d.pair(0, -1, 1));
    }

    // ---- keys, and points written

    private static void keysAndWriting() throws Exception {
        test("Terms 3", "KEYS k, 1 to r - 1", EdgeTests::leastAndHighestKey);
        test("Terms 3", "NOWHERE: -1", EdgeTests::nowhereWritten);
        test("Terms 3", "2 x and whether y is odd", EdgeTests::leastAndHighestWritten);
        test("Terms 3", "if r TIMES S is NOWHERE", EdgeTests::signatureNotOfR);
        test("Terms 3", "and r TIMES A", EdgeTests::publicPointNotOfR);
        test("Terms 3", "A is not NOWHERE", EdgeTests::publicPointNowhere);
    }

    private static void leastAndHighestKey() {
        PairingDesk desk = desk(10007, 139);
        due("open(0, 1)", desk.open(0, 1), 1);
        due("open(1, 138)", desk.open(1, 138), 1);
        due("their sum", desk.add(2, 0, 1), 0);
        due("open(0, 0)", desk.open(0, 0), BAD);
        due("open(0, 139)", desk.open(0, 139), BAD);
        due("sign(0, 0, 5)", desk.sign(0, 0, 5), BAD);
        due("sign(0, 139, 5)", desk.sign(0, 139, 5), BAD);
        due("sign(3, 1, 5)", desk.sign(3, 1, 5), 1);
        due("sign(4, 138, 5)", desk.sign(4, 138, 5), 1);
        due("their sum", desk.add(5, 3, 4), 0);
    }

    private static void nowhereWritten() {
        PairingDesk desk = used();
        due("write(4)", desk.write(4), -1);
        due("read(0, -1)", desk.read(0, -1), 1);
        due("at(0, 0)", desk.at(0, 0), NONE);
    }

    private static void leastAndHighestWritten() {
        PairingDesk desk = used();
        due("(0, 0)", desk.write(3), 0);
        due("(5, 8), y even", desk.write(0), 10);
        due("(5, 3), y odd", desk.write(2), 11);
        PairingDesk high = desk(HIGH_P, HIGH_R);
        due("read, x = p - 1", high.read(0, 4294967172L), 1);
        due("its y", high.at(0, 1), 1531308002);
        due("write", high.write(0), 4294967172L);
        due("read, x = p - 1, odd", high.read(0, 4294967173L), 1);
        due("its y", high.at(0, 1), HIGH_P - 1531308002);
        due("write", high.write(0), 4294967173L);
    }

    private static void signatureNotOfR() {
        PairingDesk desk = used();
        due("sign(5, 1, 8)", desk.sign(5, 1, 8), 1);
        due("holds(0, 8, 5)", desk.holds(0, 8, 5), 1);
        due("S and (0, 0)", desk.add(6, 5, 3), 1);
        due("holds(0, 8, 6)", desk.holds(0, 8, 6), 0);
        due("S is (0, 0)", desk.holds(0, 8, 3), 0);
    }

    private static void publicPointNotOfR() {
        PairingDesk desk = used();
        due("sign(5, 1, 8)", desk.sign(5, 1, 8), 1);
        due("A and (0, 0)", desk.add(6, 0, 3), 1);
        due("holds(6, 8, 5)", desk.holds(6, 8, 5), 0);
        due("A is (0, 0)", desk.holds(3, 8, 5), 0);
        due("A is (0, 0), S NOWHERE", desk.holds(3, 8, 4), 0);
    }

    private static void publicPointNowhere() {
        PairingDesk desk = used();
        due("A is NOWHERE", desk.holds(4, 8, 0), 0);
        // Both pairings would be 1.
        due("A and S are NOWHERE", desk.holds(4, 8, 6), 0);
        due("A and S are one slot, NOWHERE", desk.holds(4, 8, 4), 0);
    }

    // ---- the promises of points

    private static void promisesOfPoints() throws Exception {
        test("Promise 5", "NONE: it is not on THE CURVE (the SLOT stays)", EdgeTests::pointNone);
        test("Promise 5", "BAD: x, y not of THE FIELD", EdgeTests::pointBad);
        test("Promise 5", "BAD: the SLOT", EdgeTests::pointBadSlot);
        test("Promise 6", "A SLOT has NOWHERE: 1", EdgeTests::nowhereOfFullAndEmpty);
        test("Promise 6", "BAD", EdgeTests::nowhereBad);
        test("Promise 8", "the SUM of two others", EdgeTests::addIntoItself);
        test("Promise 8", "0: that is NOWHERE", EdgeTests::addNowhere);
        test("Promise 8", "BAD", EdgeTests::addBad);
        test("Promise 9", "k TIMES that of another one", EdgeTests::timesIntoItself);
        test("Promise 9", "0: that is NOWHERE", EdgeTests::timesToNowhere);
        test("Promise 9", "BAD", EdgeTests::timesBad);
        test("Promise 10", "NONE: it is NOWHERE", EdgeTests::atNowhere);
        test("Promise 10", "BAD", EdgeTests::atBad);
        test("Promise 11", "ORDER of a SLOT's POINT", EdgeTests::orderOfNowhere);
        test("Promise 11", "BAD", EdgeTests::orderBad);
        test("Promise 12", "BAD as a long", EdgeTests::writeBad);
        test("Promise 13", "NONE: there is none (the SLOT stays)", EdgeTests::readNone);
        test("Promise 13", "the POINT that is WRITTEN so", EdgeTests::readEverything);
        test("Promise 13", "BAD", EdgeTests::readBad);
    }

    private static void pointNone() {
        refused(NONE, d -> d.point(0, 1, 1), d -> d.point(0, 0, 1), d -> d.point(0, 5, 7), d -> d.point(4, 10, 10),
            d -> d.point(15, 10, 0));
        due("highest x and y", desk(HIGH_P, HIGH_R).point(0, HIGH_P - 1, HIGH_P - 1), NONE);
    }

    private static void pointBad() {
        for (int no : new int[] {LOWEST, -6, -1, 11, 16, HIGHEST}) {
            refused(BAD, d -> d.point(0, no, 0), d -> d.point(0, 0, no), d -> d.point(0, no, no));
        }
        // The same numbers modulo 11 as those of a point are not that point.
        refused(BAD, d -> d.point(0, 18, 8), d -> d.point(0, 7, 19), d -> d.point(0, 7, -3), d -> d.point(0, -4, 8));
        PairingDesk high = desk(HIGH_P, HIGH_R);
        due("x = p", high.point(0, HIGH_P, 0), BAD);
        due("y = p", high.point(0, 0, HIGH_P), BAD);
    }

    private static void pointBadSlot() {
        for (int slot : NO_SLOTS) {
            refused(BAD, d -> d.point(slot, 0, 0), d -> d.point(slot, 1, 1), d -> d.point(slot, 11, 11));
        }
        PairingDesk desk = used();
        due("slot 0", desk.point(0, 0, 0), 1);
        due("slot 15", desk.point(15, 0, 0), 1);
    }

    private static void nowhereOfFullAndEmpty() {
        PairingDesk desk = used();
        due("a full slot", desk.nowhere(0), 1);
        due("it", desk.write(0), -1);
        due("an empty slot", desk.nowhere(0), 1);
        due("it", desk.write(0), -1);
        due("the last slot", desk.nowhere(15), 1);
        due("it", desk.write(15), -1);
        due("another slot stays", desk.write(1), 14);
    }

    private static void nowhereBad() {
        for (int slot : NO_SLOTS) {
            refused(BAD, d -> d.nowhere(slot));
        }
    }

    private static void addIntoItself() {
        PairingDesk desk = used();
        due("add(1, 1, 1)", desk.add(1, 1, 1), 1);
        due("twice G", desk.write(1), 19);
        due("add(1, 1, 0)", desk.add(1, 1, 0), 1);
        due("10 times G", desk.write(1), 18);
        due("add(1, 15, 1)", desk.add(1, 15, 1), 1);
        due("8 times G", desk.write(1), 10);
    }

    private static void addNowhere() {
        PairingDesk desk = used();
        due("add(0, 0, 2)", desk.add(0, 0, 2), 0);
        due("it", desk.write(0), -1);
        due("add(15, 4, 5)", desk.add(15, 4, 5), 0);
        due("it", desk.write(15), -1);
        due("add(3, 3, 3)", desk.add(3, 3, 3), 0);
        due("it", desk.write(3), -1);
    }

    private static void addBad() {
        for (int slot : NO_SLOTS) {
            refused(BAD, d -> d.add(slot, 0, 1), d -> d.add(0, slot, 1), d -> d.add(0, 1, slot), d -> d.add(slot, slot, slot));
        }
    }

    private static void timesIntoItself() {
        PairingDesk desk = used();
        due("times(1, 1, 5)", desk.times(1, 1, 5), 1);
        due("5 times G", desk.write(1), 16);
        due("times(1, 1, 1)", desk.times(1, 1, 1), 1);
        due("the same", desk.write(1), 16);
        due("times(1, 1, -1)", desk.times(1, 1, -1), 1);
        due("7 times G", desk.write(1), 17);
    }

    private static void timesToNowhere() {
        PairingDesk desk = used();
        due("times(0, 0, 3)", desk.times(0, 0, 3), 0);
        due("it", desk.write(0), -1);
        due("times(4, 1, 12)", desk.times(4, 1, 12), 0);
        due("times(4, 1, 11)", desk.times(4, 1, 11), 1);
        due("times(4, 1, 13)", desk.times(4, 1, 13), 1);
        due("it", desk.write(4), 14);
    }

    private static void timesBad() {
        for (int slot : NO_SLOTS) {
            refused(BAD, d -> d.times(slot, 0, 2), d -> d.times(0, slot, 2), d -> d.times(slot, slot, 0));
        }
    }

    private static void atNowhere() {
        PairingDesk desk = used();
        due("at(4, 0)", desk.at(4, 0), NONE);
        due("at(4, 1)", desk.at(4, 1), NONE);
        due("at(3, 0)", desk.at(3, 0), 0);
        due("at(3, 1)", desk.at(3, 1), 0);
        due("at(15, 1)", desk.at(15, 1), 10);
    }

    private static void atBad() {
        for (int slot : NO_SLOTS) {
            refused(BAD, d -> d.at(slot, 0), d -> d.at(slot, 1));
        }
        for (int what : NO_HALVES) {
            refused(BAD, d -> d.at(0, what), d -> d.at(4, what));
        }
    }

    private static void orderOfNowhere() {
        PairingDesk desk = used();
        due("order(4)", desk.order(4), 1);
        due("order(15)", desk.order(15), 6);
        due("the slot stays", desk.write(15), 18);
    }

    private static void orderBad() {
        for (int slot : NO_SLOTS) {
            refused(BAD, d -> d.order(slot));
        }
    }

    private static void writeBad() {
        for (int slot : NO_SLOTS) {
            refused(BAD, d -> d.write(slot));
        }
    }

    private static void readNone() {
        // 1: y of (0, 0) is not odd. 2 .. 9: no y. 22 on: x is not of the field.
        for (long w : new long[] {1, 2, 3, 9, 12, 13, 22, 23, 32, -2, -3, -10, -12, (1L << 32) + 10, (1L << 33) + 10,
            Long.MIN_VALUE, Long.MIN_VALUE + 10, Long.MAX_VALUE}) {
            refused(NONE, d -> d.read(0, w), d -> d.read(4, w));
        }
        PairingDesk high = desk(HIGH_P, HIGH_R);
        due("x = p", high.read(0, 2L * HIGH_P), NONE);
        due("x = p, odd", high.read(0, 2L * HIGH_P + 1), NONE);
        due("1", high.read(0, 1), NONE);
    }

    private static void readEverything() {
        long[] written = {-1, 0, 10, 11, 14, 15, 16, 17, 18, 19, 20, 21};
        for (long w : written) {
            PairingDesk desk = used();
            due("read(0, " + w + ")", desk.read(0, w), 1);
            due("write(0)", desk.write(0), w);
            due("read(15, " + w + ")", desk.read(15, w), 1);
            due("write(15)", desk.write(15), w);
        }
    }

    private static void readBad() {
        for (int slot : NO_SLOTS) {
            refused(BAD, d -> d.read(slot, 10), d -> d.read(slot, -1), d -> d.read(slot, 1));
        }
    }

    // ---- the promises of values

    private static void promisesOfValues() throws Exception {
        test("Promise 15", "1, if it is 1, else 0", EdgeTests::multiplyToOne);
        test("Promise 15", "the product of two others", EdgeTests::multiplyIntoItself);
        test("Promise 15", "BAD", EdgeTests::multiplyBad);
        test("Promise 16", "to the power k (0 or more)", EdgeTests::leastAndHighestPower);
        test("Promise 16", "1, if it is 1, else 0", EdgeTests::powerToOne);
        test("Promise 16", "BAD", EdgeTests::powerBad);
        test("Promise 17", "u (0), v (1) of a VALUE", EdgeTests::halvesOfValues);
        test("Promise 17", "BAD", EdgeTests::valueBad);
    }

    private static void multiplyToOne() {
        PairingDesk desk = used();
        due("multiply(1, 0, 7)", desk.multiply(1, 0, 7), 1);
        dueWide("it", desk, 1, 1, 0);
        due("1 by 1", desk.multiply(2, 1, 3), 1);
        due("by 1", desk.multiply(2, 0, 1), 0);
        dueWide("it", desk, 2, 5, 3);
    }

    private static void multiplyIntoItself() {
        PairingDesk desk = used();
        due("multiply(0, 0, 0)", desk.multiply(0, 0, 0), 0);
        dueWide("it", desk, 0, 5, 8);
        due("multiply(7, 7, 0)", desk.multiply(7, 7, 0), 0);
        dueWide("it", desk, 7, 5, 3);
        due("multiply(0, 7, 0)", desk.multiply(0, 7, 0), 1);
        dueWide("it", desk, 0, 1, 0);
    }

    private static void multiplyBad() {
        for (int value : NO_VALUES) {
            refused(BAD, d -> d.multiply(value, 0, 7), d -> d.multiply(0, value, 7), d -> d.multiply(0, 7, value));
        }
    }

    private static void leastAndHighestPower() {
        PairingDesk desk = used();
        due("power(1, 0, 0)", desk.power(1, 0, 0), 1);
        dueWide("it", desk, 1, 1, 0);
        due("power(1, 0, 1)", desk.power(1, 0, 1), 0);
        dueWide("it", desk, 1, 5, 3);
        // The rest of the highest by 3 is 1.
        due("the highest", desk.power(1, 0, Long.MAX_VALUE), 0);
        dueWide("it", desk, 1, 5, 3);
        due("the highest but one", desk.power(1, 0, Long.MAX_VALUE - 1), 1);
        due("above 32 bits", desk.power(1, 0, (1L << 33) + 1), 1);
        due("into itself", desk.power(0, 0, 2), 0);
        dueWide("it", desk, 0, 5, 8);
    }

    private static void powerToOne() {
        PairingDesk desk = used();
        for (int k = 0; k < 10; k++) {
            due("power(1, 0, " + k + ")", desk.power(1, 0, k), k % 3 == 0 ? 1 : 0);
            due("power(1, 3, " + k + ")", desk.power(1, 3, k), 1);
        }
    }

    private static void powerBad() {
        for (int value : NO_VALUES) {
            refused(BAD, d -> d.power(value, 0, 1), d -> d.power(0, value, 0));
        }
        refused(BAD, d -> d.power(0, 7, -1), d -> d.power(0, 7, Long.MIN_VALUE), d -> d.power(0, 3, -1));
    }

    private static void halvesOfValues() {
        PairingDesk desk = used();
        dueWide("value 0", desk, 0, 5, 3);
        dueWide("value 7", desk, 7, 5, 8);
        dueWide("value 3", desk, 3, 1, 0);
    }

    private static void valueBad() {
        for (int value : NO_VALUES) {
            refused(BAD, d -> d.value(value, 0), d -> d.value(value, 1));
        }
        for (int what : NO_HALVES) {
            refused(BAD, d -> d.value(0, what), d -> d.value(7, what));
        }
    }

    // ---- the promises of keys and signatures

    private static void promisesOfKeys() throws Exception {
        test("Promise 18", "BAD", EdgeTests::openBad);
        test("Promise 18", "k too", EdgeTests::openBadKey);
        test("Promise 19", "BAD", EdgeTests::signBad);
        test("Promise 19", "k too", EdgeTests::signBadKey);
        test("Promise 20", "1, 0", EdgeTests::holdsOrNot);
        test("Promise 20", "BAD", EdgeTests::holdsBad);
        test("Promise 21", "w + k", EdgeTests::textsOfManyGoAround);
        test("Promise 21", "n 1 to 8", EdgeTests::leastAndHighestCount);
        test("Promise 21", "n too small, too large", EdgeTests::countBad);
        test("Promise 21", "from + n at most 16", EdgeTests::lastOfMany);
        test("Promise 21", "r TIMES all these NOWHERE", EdgeTests::oneOfManyNotOfR);
        test("Promise 21", "none of these SLOTS NOWHERE", EdgeTests::oneOfManyNowhere);
        test("Promise 21", "e(S, THE BASE), S being NOWHERE", EdgeTests::sumOfManyNowhere);
        test("Promise 21", "BAD", EdgeTests::holdsAllBad);
        test("Promise 22", "Of all SLOTS, then VALUES", EdgeTests::digestOfEmptyAndFull);
        test("Promise 22", "h = 31 h + v, of 64 bits", EdgeTests::digestGoesAround);
        test("Promise 22", "STATE as a long", EdgeTests::digestState);
    }

    private static void openBad() {
        for (int slot : NO_SLOTS) {
            refused(BAD, d -> d.open(slot, 1), d -> d.open(slot, 0));
        }
    }

    private static void openBadKey() {
        for (int key : new int[] {LOWEST, -2, -1, 0, 3, 4, 11, HIGHEST}) {
            refused(BAD, d -> d.open(0, key), d -> d.open(4, key));
        }
        PairingDesk highest = desk(2147482867, 536870717);
        due("r - 1", highest.open(0, 536870716), 1);
        due("r", highest.open(0, 536870717), BAD);
    }

    private static void signBad() {
        for (int slot : NO_SLOTS) {
            refused(BAD, d -> d.sign(slot, 1, 5), d -> d.sign(slot, 0, 5));
        }
    }

    private static void signBadKey() {
        for (int key : new int[] {LOWEST, -2, -1, 0, 3, 4, 11, HIGHEST}) {
            refused(BAD, d -> d.sign(0, key, 6), d -> d.sign(4, key, -1));
        }
        PairingDesk highest = desk(2147482867, 536870717);
        due("r - 1", highest.sign(0, 536870716, -1), 1);
        due("r", highest.sign(0, 536870717, -1), BAD);
    }

    private static void holdsOrNot() {
        PairingDesk desk = used();
        for (long w : new long[] {0, 10, 11, -1, Long.MIN_VALUE, Long.MAX_VALUE}) {
            for (int key = 1; key < 3; key++) {
                due("open(5, " + key + ")", desk.open(5, key), 1);
                due("sign(6, " + key + ", " + w + ")", desk.sign(6, key, w), 1);
                due("holds, key " + key + ", " + w, desk.holds(5, w, 6), 1);
                due("open(5, " + (3 - key) + ")", desk.open(5, 3 - key), 1);
                due("holds, the other key", desk.holds(5, w, 6), 0);
            }
            due("S is NOWHERE", desk.holds(5, w, 4), 0);
        }
        due("slot 5 stays", desk.write(5), 10);
    }

    private static void holdsBad() {
        for (int slot : NO_SLOTS) {
            refused(BAD, d -> d.holds(slot, 8, 0), d -> d.holds(0, 8, slot), d -> d.holds(slot, 8, slot));
        }
    }

    /** Keys 1000003, 2000006 .. in slots from on, and in slot s the sum of their signatures of w, w + 1 .. */
    private static PairingDesk signedByMany(int from, int n, long w, int s) {
        PairingDesk desk = desk(2147483171, 178956931);
        int one = s == 0 ? 1 : s - 1;
        for (int k = 0; k < n; k++) {
            due("open", desk.open(from + k, 1000003 * (k + 1)), 1);
            due("sign", desk.sign(one, 1000003 * (k + 1), w + k), 1);
            due("add", desk.add(s, s, one), 1);
        }
        return desk;
    }

    private static void textsOfManyGoAround() {
        // The texts are 2 to the 64 less 3 .. 1, then 0 .. 4; and those around 2 to the 63.
        due("around 0", signedByMany(0, 8, -3, 15).holdsAll(0, 8, -3, 15), 1);
        due("around 2 to the 63", signedByMany(0, 8, Long.MAX_VALUE - 3, 15).holdsAll(0, 8, Long.MAX_VALUE - 3, 15), 1);
        due("around p", signedByMany(0, 8, 2147483168L, 15).holdsAll(0, 8, 2147483168L, 15), 1);
    }

    private static void leastAndHighestCount() {
        PairingDesk desk = signedByMany(0, 1, 77, 15);
        due("1 of 1", desk.holdsAll(0, 1, 77, 15), 1);
        due("2 of 1", desk.holdsAll(0, 2, 77, 15), 0);
        desk = signedByMany(0, 8, 77, 15);
        due("8 of 8", desk.holdsAll(0, 8, 77, 15), 1);
        due("7 of 8", desk.holdsAll(0, 7, 77, 15), 0);
        due("1 of 8", desk.holdsAll(0, 1, 77, 15), 0);
    }

    private static void countBad() {
        for (int n : new int[] {LOWEST, -1, 0, 9, 16, 17, HIGHEST}) {
            refused(BAD, d -> d.holdsAll(0, n, 8, 0), d -> d.holdsAll(4, n, 8, 0), d -> d.holdsAll(15, n, 8, 0));
        }
    }

    private static void lastOfMany() {
        due("8 from 8", signedByMany(8, 8, 77, 1).holdsAll(8, 8, 77, 1), 1);
        due("1 from 15", signedByMany(15, 1, 77, 1).holdsAll(15, 1, 77, 1), 1);
        for (int n = 1; n <= 8; n++) {
            int count = n;
            refused(BAD, d -> d.holdsAll(17 - count, count, 8, 0));
            due(n + " from " + (16 - n), used().holdsAll(16 - n, n, 8, 0), 0);
        }
    }

    private static void oneOfManyNotOfR() {
        for (int k = 0; k < 8; k++) {
            PairingDesk desk = signedByMany(0, 8, 77, 15);
            desk.point(13, 0, 0);
            desk.add(k, k, 13);
            due("slot " + k + " is not of r", desk.holdsAll(0, 8, 77, 15), 0);
        }
        PairingDesk desk = signedByMany(0, 8, 77, 15);
        desk.point(13, 0, 0);
        desk.add(15, 15, 13);
        due("S is not of r", desk.holdsAll(0, 8, 77, 15), 0);
    }

    private static void oneOfManyNowhere() {
        PairingDesk desk = signedByMany(0, 7, 77, 15);
        due("7 of 7", desk.holdsAll(0, 7, 77, 15), 1);
        // The eighth would give 1 to the product.
        due("the last is NOWHERE", desk.holdsAll(0, 8, 77, 15), 0);
        desk = signedByMany(1, 7, 77, 15);
        due("7 of 7, from 1", desk.holdsAll(1, 7, 77, 15), 1);
        due("the first is NOWHERE", desk.holdsAll(0, 8, 76, 15), 0);
        due("all are NOWHERE, S too", desk.holdsAll(9, 3, 76, 13), 0);
    }

    private static void sumOfManyNowhere() {
        // 4 and 5 TURNED are (5, 8): once and twice that, the keys being 1 and 2, is NOWHERE.
        PairingDesk desk = desk(11, 3);
        desk.open(0, 1);
        desk.open(1, 2);
        due("the product is 1", desk.holdsAll(0, 2, 4, 9), 1);
        due("the product is not 1", desk.holdsAll(0, 2, 8, 9), 0);
        due("one key alone", desk.holdsAll(0, 1, 4, 9), 0);
    }

    private static void holdsAllBad() {
        for (int slot : NO_SLOTS) {
            refused(BAD, d -> d.holdsAll(slot, 1, 8, 0), d -> d.holdsAll(0, 1, 8, slot), d -> d.holdsAll(slot, 1, 8, slot));
        }
        refused(BAD, d -> d.holdsAll(HIGHEST, HIGHEST, 8, 0), d -> d.holdsAll(HIGHEST, 8, 8, 0), d -> d.holdsAll(-8, 8, 8, 0),
            d -> d.holdsAll(-1, 2, 8, 0), d -> d.holdsAll(LOWEST, LOWEST, 8, 0));
    }

    private static void digestOfEmptyAndFull() {
        due("at first", desk(11, 3).digest(), -998104235516521719L);
        PairingDesk desk = desk(11, 3);
        long hash = 17;
        for (int slot = 0; slot < 16; slot++) {
            due("read", desk.read(slot, 10 + (slot + 1) % 2), 1);
            hash = 31 * hash + 10 + (slot + 1) % 2;
        }
        for (int value = 0; value < 8; value++) {
            due("pair", desk.pair(value, 0, value), 2);
            hash = 31 * (31 * hash + 5) + (value % 2 == 0 ? 3 : 8);
        }
        due("full", desk.digest(), hash);
        due("again", desk.digest(), hash);
    }

    private static void digestGoesAround() {
        PairingDesk desk = desk(HIGH_P, HIGH_R);
        BigInteger hash = BigInteger.valueOf(17), times = BigInteger.valueOf(31);
        for (int slot = 0; slot < 16; slot++) {
            due("read", desk.read(slot, 4294967173L), 1);
            hash = hash.multiply(times).add(BigInteger.valueOf(4294967173L));
        }
        for (int value = 0; value < 8; value++) {
            hash = hash.multiply(times).add(BigInteger.ONE).multiply(times);
        }
        due("of the highest point", desk.digest(), hash.longValue());
    }

    private static void digestState() {
        due("digest", new PairingDesk().digest(), STATE);
        PairingDesk desk = new PairingDesk();
        desk.field(12, 3);
        due("digest behind a refused field", desk.digest(), STATE);
    }
}
