/** Promise 8, common: a test for each sentence that names a boundary case. */
public final class Promise08Test {
    public static void main(String[] args) {
        zeroAndAnother();
        anotherAndZero();
        zeroAndNumber();
        zeroAndZero();
        leadIsAboveZero();
        noNumberDividesAll();
        numbersHaveOnlyOne();
        strangers();
        highestDegree();
        dividesManyTimes();
        quotientsOfAnySize();
        greatestThatFits();
        nextThatIsFull();
        firstAndLastSlot();
        ownSlots();
        wrongSlots();
        throwsBeforeFull();
        Check.end();
    }

    /** Slots 0 and 1 have these coefficients; slot 7 is not 0, and parts and a pattern are told. */
    private static GaloisDesk two(int[] a, int... b) {
        GaloisDesk desk = new GaloisDesk();
        Check.load(desk, 7, -2, 0, 1);
        desk.parts(7);
        desk.pattern(7, 7);
        Check.load(desk, 0, a);
        Check.load(desk, 1, b);
        return desk;
    }

    private static int[] row(int... coefficients) {
        return coefficients;
    }

    private static void gives(String what, GaloisDesk desk, int degree, int... coefficients) {
        Edge.changesSlot(what, desk, d -> d.common(7, 0, 1), degree, 7, coefficients);
    }

    private static void zeroAndAnother() {
        Check.about("promise 8", "of 0 and b what b is without its CONTENT");
        gives("0 and -300 x^6 + 300", two(row(), 300, 0, 0, 0, 0, 0, -300), 6, -1, 0, 0, 0, 0, 0, 1);
        gives("0 and 4 x^2 + 6", two(row(), 6, 0, 4), 2, 3, 0, 2);
        gives("0 and a primitive one", two(row(), -300, 299), 1, -300, 299);
        gives("0 and a square", two(row(), 2, 4, 2), 2, 1, 2, 1);
    }

    private static void anotherAndZero() {
        Check.about("promise 8", "of 0 and b what b is without its CONTENT");
        gives("-300 x^6 + 300 and 0", two(row(300, 0, 0, 0, 0, 0, -300)), 6, -1, 0, 0, 0, 0, 0, 1);
        gives("x^6 and 0", two(row(0, 0, 0, 0, 0, 0, 1)), 6, 0, 0, 0, 0, 0, 0, 1);
    }

    private static void zeroAndNumber() {
        Check.about("promise 8", "of 0 and b what b is without its CONTENT");
        gives("0 and 300", two(row(), 300), 0, 1);
        gives("0 and -1", two(row(), -1), 0, 1);
        gives("-7 and 0", two(row(-7)), 0, 1);
    }

    private static void zeroAndZero() {
        Check.about("promise 8", "of 0 and 0 it is 0: its DEGREE");
        gives("0 and 0", two(row()), GaloisDesk.NONE);
        Edge.changesSlot("common(7, 6, 6)", Edge.furnished(), d -> d.common(7, 6, 6), GaloisDesk.NONE, 7);
    }

    private static void leadIsAboveZero() {
        Check.about("promise 8, Terms", "It is PRIMITIVE if its LEAD is above 0");
        gives("-x + 1 and -x^2 + 1", two(row(1, -1), 1, 0, -1), 1, -1, 1);
        gives("-x and -x", two(row(0, -1), 0, -1), 1, 0, 1);
        gives("-x + 1 and x - 1", two(row(1, -1), -1, 1), 1, -1, 1);
    }

    private static void noNumberDividesAll() {
        Check.about("promise 8, Terms", "no number above 1 divides all its COEFFICIENTS.");
        gives("6 x + 6 and 6 x + 6", two(row(6, 6), 6, 6), 1, 1, 1);
        gives("4 x and 6 x", two(row(0, 4), 0, 6), 1, 0, 1);
        gives("300 x^6 and -300 x^6", two(row(0, 0, 0, 0, 0, 0, 300), 0, 0, 0, 0, 0, 0, -300), 6,
                0, 0, 0, 0, 0, 0, 1);
        gives("x + 1 and 300 x + 300", two(row(1, 1), 300, 300), 1, 1, 1);
    }

    private static void numbersHaveOnlyOne() {
        Check.about("promise 8", "the PRIMITIVE POLYNOMIAL of the highest DEGREE that DIVIDES"
                + " some number (not 0) times a, and some times b");
        gives("6 and 4", two(row(6), 4), 0, 1);
        gives("-300 and -300", two(row(-300), -300), 0, 1);
        gives("2 and 2 x", two(row(2), 0, 2), 0, 1);
        gives("x^6 and 300", two(row(0, 0, 0, 0, 0, 0, 1), 300), 0, 1);
    }

    private static void strangers() {
        Check.about("promise 8", "the PRIMITIVE POLYNOMIAL of the highest DEGREE that DIVIDES"
                + " some number (not 0) times a, and some times b");
        gives("2 x and 2 x + 2", two(row(0, 2), 2, 2), 0, 1);
        gives("x^6 and x^6 + 1", two(row(0, 0, 0, 0, 0, 0, 1), 1, 0, 0, 0, 0, 0, 1), 0, 1);
        gives("x + 1 and x + 300", two(row(1, 1), 300, 1), 0, 1);
    }

    private static void highestDegree() {
        Check.about("promise 8", "the PRIMITIVE POLYNOMIAL of the highest DEGREE that DIVIDES"
                + " some number (not 0) times a, and some times b");
        int[] six = {-300, 299, 0, 1, -7, 150, 300};
        gives("the same one of degree 6", two(six, six), 6, six);
        gives("x^6 - 1 and x^4 - 1", two(row(-1, 0, 0, 0, 0, 0, 1), -1, 0, 0, 0, 1), 2, -1, 0, 1);
        gives("4 x^2 - 1 and 6 x + 3", two(row(-1, 0, 4), 3, 6), 1, 1, 2);
    }

    private static void dividesManyTimes() {
        Check.about("promise 8", "the PRIMITIVE POLYNOMIAL of the highest DEGREE that DIVIDES"
                + " some number (not 0) times a, and some times b");
        gives("x^6 and x^5", two(row(0, 0, 0, 0, 0, 0, 1), 0, 0, 0, 0, 0, 1), 5, 0, 0, 0, 0, 0, 1);
        gives("(x + 1)^3 and (x + 1)^2 x", two(row(1, 3, 3, 1), 0, 1, 2, 1), 2, 1, 2, 1);
        gives("(x + 1)^6 and x + 1", two(row(1, 6, 15, 20, 15, 6, 1), 1, 1), 1, 1, 1);
    }

    private static void quotientsOfAnySize() {
        Check.about("promise 8, Terms", "DIVIDES: there is a POLYNOMIAL with whole COEFFICIENTS (of any size)");
        gives("(x - 1)(200 x^2 + 350 x + 201) and x - 1", two(row(-201, -149, 150, 200), -1, 1), 1, -1, 1);
        gives("(x - 1)^2 and a quotient with 899", two(row(299, 151, -300, -300, -300, 151, 299), 1, -2, 1), 2,
                1, -2, 1);
    }

    /**
     * Two multiples of g, 200 x^2 + middle x + 201: by x - 1 and x^2 - x + 1, or by x + 1 and x^2 + x + 1 where the
     * middle is below 0.
     */
    private static GaloisDesk twoWithMiddle(int middle) {
        int sign = middle < 0 ? 1 : -1;
        int[] a = {sign * 201, 201 + sign * middle, middle + sign * 200, 200};
        return two(a, 201, middle + sign * 201, 401 + sign * middle, middle + sign * 200, 200);
    }

    private static void greatestThatFits() {
        Check.about("promise 8, Terms", "COEFFICIENTS 0 .. 6 of x to the 0 .. 6, from -300 to 300.");
        gives("common with 300", twoWithMiddle(300), 2, 201, 300, 200);
        gives("common with -300", twoWithMiddle(-300), 2, 201, -300, 200);
    }

    private static void nextThatIsFull() {
        Check.about("promise 8", "of 0 and 0 it is 0: its DEGREE; or FULL.");
        Edge.leavesAll("common with 301", twoWithMiddle(301), d -> d.common(7, 0, 1), GaloisDesk.FULL);
        Edge.leavesAll("common with -301", twoWithMiddle(-301), d -> d.common(7, 0, 1), GaloisDesk.FULL);
        Edge.leavesAll("common with 500", twoWithMiddle(500), d -> d.common(7, 1, 0), GaloisDesk.FULL);
        Edge.leavesAll("FULL into a", twoWithMiddle(301), d -> d.common(0, 0, 1), GaloisDesk.FULL);
        Edge.leavesAll("FULL into b", twoWithMiddle(301), d -> d.common(1, 0, 1), GaloisDesk.FULL);
    }

    private static void firstAndLastSlot() {
        Check.about("promise 8", "Slot to gets the PRIMITIVE POLYNOMIAL");
        GaloisDesk desk = Check.deskWith(-2, 0, 2);
        Check.load(desk, 7, 3, 3);
        Edge.changesSlot("common(3, 0, 7)", desk, d -> d.common(3, 0, 7), 1, 3, 1, 1);
        Edge.changesSlot("common(4, 7, 0)", desk, d -> d.common(4, 7, 0), 1, 4, 1, 1);
        Edge.changesSlot("common(7, 0, 0)", Edge.furnished(), d -> d.common(7, 0, 0), 6, 7, -1, 0, 0, 0, 0, 0, 1);
        Edge.changesSlot("common(0, 7, 7)", Edge.furnished(), d -> d.common(0, 7, 7), 2, 0, 0, -8, 9);
    }

    private static void ownSlots() {
        Check.about("promise 8", "Slot to gets the PRIMITIVE POLYNOMIAL");
        Edge.changesSlot("to is a", two(row(-2, 0, 2), 3, 3), d -> d.common(0, 0, 1), 1, 0, 1, 1);
        Edge.changesSlot("to is b", two(row(-2, 0, 2), 3, 3), d -> d.common(1, 0, 1), 1, 1, 1, 1);
        Edge.changesSlot("to is both", two(row(6, -4)), d -> d.common(0, 0, 0), 1, 0, -3, 2);
        Edge.changesSlot("to is the 0", two(row(6, -4)), d -> d.common(1, 0, 1), 1, 1, -3, 2);
    }

    private static void wrongSlots() {
        Check.about("promise 8, Terms", "IllegalArgument is thrown where a number is none of those told here.");
        for (int slot : Edge.NO_SLOTS) {
            Edge.refused("common(" + slot + ", 0, 1)", d -> d.common(slot, 0, 1));
            Edge.refused("common(7, " + slot + ", 1)", d -> d.common(7, slot, 1));
            Edge.refused("common(7, 0, " + slot + ")", d -> d.common(7, 0, slot));
            Edge.refused("common(7, 6, " + slot + ")", d -> d.common(7, 6, slot));
            Edge.refused("common(7, " + slot + ", 6)", d -> d.common(7, slot, 6));
        }
    }

    private static void throwsBeforeFull() {
        Check.about("promise 8, Terms", "IllegalArgument is thrown where a number is none of those told here.");
        GaloisDesk desk = twoWithMiddle(301);
        Check.refused("common(8, 0, 1) that would be FULL", () -> desk.common(8, 0, 1));
        Edge.refused("common(8, 6, 6)", d -> d.common(8, 6, 6));
    }
}
