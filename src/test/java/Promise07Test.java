/** Promise 7, divide: a test for each sentence that names a boundary case. */
public final class Promise07Test {
    public static void main(String[] args) {
        byZero();
        zeroByZero();
        zeroDivided();
        restIsLeft();
        notWhole();
        higherDivisor();
        farFromDividing();
        byNumbers();
        byItself();
        highestDegrees();
        greatestThatFits();
        nextThatIsFull();
        fullOnlyIfItDivides();
        firstAndLastSlot();
        ownSlots();
        wrongSlots();
        throwsBeforeZero();
        Check.end();
    }

    /** Slots 0 and 1 have these coefficients; slot 7 is not 0, and parts and a pattern are told. */
    private static GaloisDesk two(int[] a, int... b) {
        GaloisDesk desk = new GaloisDesk();
        Check.load(desk, 7, -2, 0, 1);
        desk.parts(7);
        desk.pattern(7, 7);
        Check.load(desk, 0, a);
        Check.load(desk, 1, b);
        return desk;
    }

    private static int[] row(int... coefficients) {
        return coefficients;
    }

    private static void divides(String what, GaloisDesk desk, int degree, int... quotient) {
        Edge.changesSlot(what, desk, d -> d.divide(7, 0, 1), degree, 7, quotient);
    }

    private static void leaves(String what, GaloisDesk desk, int due) {
        Edge.leavesAll(what, desk, d -> d.divide(7, 0, 1), due);
    }

    private static void byZero() {
        Check.about("promise 7", "or ZERO, b is 0");
        Edge.leavesAll("divide(7, 2, 6)", Edge.furnished(), d -> d.divide(7, 2, 6), GaloisDesk.ZERO);
        Edge.leavesAll("divide(6, 4, 6)", Edge.furnished(), d -> d.divide(6, 4, 6), GaloisDesk.ZERO);
        Edge.leavesAll("divide(1, 1, 6)", Edge.furnished(), d -> d.divide(1, 1, 6), GaloisDesk.ZERO);
    }

    private static void zeroByZero() {
        Check.about("promise 7", "or ZERO, b is 0");
        Edge.leavesAll("divide(7, 6, 6)", Edge.furnished(), d -> d.divide(7, 6, 6), GaloisDesk.ZERO);
    }

    private static void zeroDivided() {
        Check.about("promise 7", "(0 divided by b is 0, whose DEGREE is NONE, too.)");
        Edge.changesSlot("0 by x + 1", Edge.furnished(), d -> d.divide(7, 6, 1), GaloisDesk.NONE, 7);
        Edge.changesSlot("0 by 5", Edge.furnished(), d -> d.divide(7, 6, 4), GaloisDesk.NONE, 7);
        Edge.changesSlot("0 by 300 x^6", Edge.furnished(), d -> d.divide(2, 6, 2), GaloisDesk.NONE, 2);
    }

    private static void restIsLeft() {
        Check.about("promise 7", "NONE, it does not (nothing changes)");
        leaves("x^2 + 1 by x + 1", two(row(1, 0, 1), 1, 1), GaloisDesk.NONE);
        leaves("x^6 + 1 by x + 1", two(row(1, 0, 0, 0, 0, 0, 1), 1, 1), GaloisDesk.NONE);
        leaves("x + 1 by x", two(row(1, 1), 0, 1), GaloisDesk.NONE);
        leaves("a rest of x", two(row(0, 1, 0, 1), -1, 0, 1), GaloisDesk.NONE);
    }

    private static void notWhole() {
        Check.about("promise 7, Terms", "DIVIDES: there is a POLYNOMIAL with whole COEFFICIENTS (of any size)"
                + " that makes the other one, as a product.");
        leaves("x + 1 by 2 x + 2", two(row(1, 1), 2, 2), GaloisDesk.NONE);
        leaves("-7 by 2", two(row(-7), 2), GaloisDesk.NONE);
        leaves("2 x + 1 by 2", two(row(1, 2), 2), GaloisDesk.NONE);
        leaves("4 x^2 + 6 x + 2 by 4 x + 4", two(row(2, 6, 4), 4, 4), GaloisDesk.NONE);
        leaves("1 by 300", two(row(1), 300), GaloisDesk.NONE);
    }

    private static void higherDivisor() {
        Check.about("promise 7", "NONE, it does not (nothing changes)");
        leaves("x + 1 by x^2 + x", two(row(1, 1), 0, 1, 1), GaloisDesk.NONE);
        leaves("1 by x", two(row(1), 0, 1), GaloisDesk.NONE);
        leaves("300 by x^6", two(row(300), 0, 0, 0, 0, 0, 0, 1), GaloisDesk.NONE);
        leaves("x^5 by x^6", two(row(0, 0, 0, 0, 0, 1), 0, 0, 0, 0, 0, 0, 1), GaloisDesk.NONE);
    }

    private static void farFromDividing() {
        Check.about("promise 7", "NONE, it does not (nothing changes)");
        leaves("by x + 299", two(row(300, -300, 300, -300, 300, -300, 300), 299, 1), GaloisDesk.NONE);
        leaves("by x - 300", two(row(-300, 300, 300, 300, 300, 300, 300), -300, 1), GaloisDesk.NONE);
        leaves("by x - 256, whose rest is 300 * 2^48", two(row(0, 0, 0, 0, 0, 0, 300), -256, 1), GaloisDesk.NONE);
    }

    private static void byNumbers() {
        Check.about("promise 7", "Slot to gets a divided by b, if b DIVIDES a: its DEGREE");
        divides("by 1", two(row(3, 0, -300), 1), 2, 3, 0, -300);
        divides("by -1", two(row(3, 0, -300), -1), 2, -3, 0, 300);
        divides("by 300", two(row(-300, 300), 300), 1, -1, 1);
        divides("a number by a number", two(row(-300), 150), 0, -2);
    }

    private static void byItself() {
        Check.about("promise 7", "Slot to gets a divided by b, if b DIVIDES a: its DEGREE");
        divides("by itself", two(row(-300, 7, 0, 0, 0, 0, 300), -300, 7, 0, 0, 0, 0, 300), 0, 1);
        divides("by its opposite", two(row(4, -2), -4, 2), 0, -1);
    }

    private static void highestDegrees() {
        Check.about("promise 7", "Slot to gets a divided by b, if b DIVIDES a: its DEGREE");
        divides("x^6 by x", two(row(0, 0, 0, 0, 0, 0, 1), 0, 1), 5, 0, 0, 0, 0, 0, 1);
        divides("x^6 by x^5", two(row(0, 0, 0, 0, 0, 0, 1), 0, 0, 0, 0, 0, 1), 1, 0, 1);
        divides("x^6 by -1", two(row(0, 0, 0, 0, 0, 0, 1), -1), 6, 0, 0, 0, 0, 0, 0, -1);
        divides("x^6 - 1 by x^3 - 1", two(row(-1, 0, 0, 0, 0, 0, 1), -1, 0, 0, 1), 3, 1, 0, 0, 1);
    }

    /** Slot 0: x - 1 (x + 1 for a middle below 0), the divisor, by 200 x^2 + middle x + 200, by x to the k - 1. */
    private static GaloisDesk withMiddle(int middle, int k) {
        int sign = middle < 0 ? 1 : -1;
        int[] a = new int[7];
        a[k - 1] = sign * 200;
        a[k] = 200 + sign * middle;
        a[k + 1] = middle + sign * 200;
        a[k + 2] = 200;
        return two(a, sign, 1);
    }

    private static void greatestThatFits() {
        Check.about("promise 7, Terms", "COEFFICIENTS 0 .. 6 of x to the 0 .. 6, from -300 to 300.");
        for (int k = 1; k <= 4; k++) {
            int[] quotient = new int[7];
            quotient[k - 1] = 200;
            quotient[k + 1] = 200;
            quotient[k] = 300;
            divides("a quotient with 300 at " + k, withMiddle(300, k), k + 1, quotient);
            quotient[k] = -300;
            divides("a quotient with -300 at " + k, withMiddle(-300, k), k + 1, quotient);
        }
    }

    private static void nextThatIsFull() {
        Check.about("promise 7", "nothing changes), FULL.");
        for (int k = 1; k <= 4; k++) {
            leaves("a quotient with 301 at " + k, withMiddle(301, k), GaloisDesk.FULL);
            leaves("a quotient with -301 at " + k, withMiddle(-301, k), GaloisDesk.FULL);
            leaves("a quotient with 500 at " + k, withMiddle(500, k), GaloisDesk.FULL);
        }
        Edge.leavesAll("FULL into a", withMiddle(301, 1), d -> d.divide(0, 0, 1), GaloisDesk.FULL);
        Edge.leavesAll("FULL into b", withMiddle(301, 1), d -> d.divide(1, 0, 1), GaloisDesk.FULL);
    }

    private static void fullOnlyIfItDivides() {
        Check.about("promise 7", "NONE, it does not (nothing changes), FULL.");
        GaloisDesk desk = withMiddle(301, 1);
        desk.set(0, 0, -199);
        leaves("a quotient with 301, but a rest of 1", desk, GaloisDesk.NONE);
    }

    private static void firstAndLastSlot() {
        Check.about("promise 7", "Slot to gets a divided by b, if b DIVIDES a: its DEGREE");
        GaloisDesk desk = Check.deskWith(0, 0, 6);
        Check.load(desk, 7, 0, 2);
        Edge.changesSlot("divide(3, 0, 7)", desk, d -> d.divide(3, 0, 7), 1, 3, 0, 3);
        Edge.leavesAll("divide(3, 7, 0)", desk, d -> d.divide(3, 7, 0), GaloisDesk.NONE);
        Edge.changesSlot("divide(0, 7, 7)", Edge.furnished(), d -> d.divide(0, 7, 7), 0, 0, 1);
    }

    private static void ownSlots() {
        Check.about("promise 7", "Slot to gets a divided by b, if b DIVIDES a: its DEGREE");
        Edge.changesSlot("to is a", two(row(2, 3, 1), 1, 1), d -> d.divide(0, 0, 1), 1, 0, 2, 1);
        Edge.changesSlot("to is b", two(row(2, 3, 1), 1, 1), d -> d.divide(1, 0, 1), 1, 1, 2, 1);
        Edge.changesSlot("to is both", two(row(2, 3, 1)), d -> d.divide(0, 0, 0), 0, 0, 1);
        Edge.leavesAll("to is b, which does not divide", two(row(2, 3, 1), 3, 1), d -> d.divide(1, 0, 1),
                GaloisDesk.NONE);
    }

    private static void wrongSlots() {
        Check.about("promise 7, Terms", "IllegalArgument is thrown where a number is none of those told here.");
        for (int slot : Edge.NO_SLOTS) {
            Edge.refused("divide(" + slot + ", 0, 1)", d -> d.divide(slot, 0, 1));
            Edge.refused("divide(7, " + slot + ", 1)", d -> d.divide(7, slot, 1));
            Edge.refused("divide(7, 0, " + slot + ")", d -> d.divide(7, 0, slot));
        }
    }

    private static void throwsBeforeZero() {
        Check.about("promise 7, Terms", "IllegalArgument is thrown where a number is none of those told here.");
        Edge.refused("divide(8, 0, 6)", d -> d.divide(8, 0, 6));
        Edge.refused("divide(7, -1, 6)", d -> d.divide(7, -1, 6));
        Edge.refused("divide(8, 1, 0)", d -> d.divide(8, 1, 0));
        Edge.refused("divide(7, 6, 8)", d -> d.divide(7, 6, 8));
    }
}
