/** Promise 15, galois: a test for each sentence that names a boundary case. */
public final class Promise15Test {
    public static void main(String[] args) {
        ofZero();
        ofNumbers();
        oneRoot();
        twoRoots();
        threeRoots();
        fourRoots();
        timesAnyNumber();
        products();
        powers();
        degreesAboveFour();
        leastAndGreatestCoefficients();
        changesNothing();
        firstAndLastSlot();
        wrongSlots();
        Check.end();
    }

    private static void expect(int group, int... coefficients) {
        GaloisDesk desk = Check.deskWith(coefficients);
        Check.same("galois of " + java.util.Arrays.toString(coefficients), desk.galois(0), group);
    }

    private static void ofZero() {
        Check.about("promise 15", "0 if it is of another kind");
        Edge.leavesAll("galois(0) on a new object", new GaloisDesk(), d -> d.galois(0), 0);
        Edge.leavesAll("galois(6) of 0", Edge.furnished(), d -> d.galois(6), 0);
    }

    private static void ofNumbers() {
        Check.about("promise 15", "0 if it is of another kind");
        int[] numbers = {-300, -2, -1, 1, 2, 3, 300};
        for (int number : numbers) {
            expect(0, number);
        }
    }

    private static void oneRoot() {
        Check.about("promise 15, Terms", "1 of one root");
        expect(1, 0, 1);
        expect(1, 0, -1);
        expect(1, 1, 1);
        expect(1, -299, 300);
    }

    private static void twoRoots() {
        Check.about("promise 15, Terms", "2 of two");
        expect(2, 1, 0, 1);
        expect(2, -2, 0, 1);
        expect(2, -1, 300, 300);
        expect(0, -4, 0, 1);
        expect(0, 0, 1, 1);
    }

    private static void threeRoots() {
        Check.about("promise 15, Terms", "of three: 3 with three elements, 4 with six");
        expect(3, 1, -3, 0, 1);
        expect(3, 9, -9, 0, 1);
        expect(4, 1, 3, 0, 1);
        expect(4, 1, -4, 0, 1);
        expect(4, -300, 0, 0, 1);
        expect(0, 2, -3, 0, 1);
    }

    private static void fourRoots() {
        Check.about("promise 15, Terms", "of four: 5 with four, each twice done is nothing (V), 6 with four,"
                + " one of which done four times (C), 7 with eight, 8 with twelve, 9 with all twenty-four.");
        expect(5, 1, 0, 0, 0, 1);
        expect(5, 1, 0, -4, 0, 1);
        expect(6, 2, 0, -4, 0, 1);
        expect(6, 1, 1, 1, 1, 1);
        expect(7, 2, 0, 0, 0, 1);
        expect(7, 3, 0, -4, 0, 2);
        expect(8, 12, 8, 0, 0, 1);
        expect(9, 1, 1, 0, 0, 1);
        expect(0, 4, 0, 0, 0, 1);
    }

    private static void timesAnyNumber() {
        Check.about("promise 15, Terms", "of an IRREDUCIBLE POLYNOMIAL times any number");
        int[] numbers = {-30, -2, -1, 2, 30};
        for (int n : numbers) {
            expect(1, 10 * n, -10 * n);
            expect(2, -2 * n, 0, n);
            expect(3, n, -3 * n, 0, n);
            expect(4, n, 3 * n, 0, n);
            expect(5, n, 0, -10 * n, 0, n);
            expect(6, n, n, n, n, n);
            expect(7, 2 * n, 0, 0, 0, n);
            expect(9, n, n, 0, 0, n);
        }
        expect(8, -24, -16, 0, 0, -2);
        expect(8, 300, 200, 0, 0, 25);
        expect(1, 300, -300);
    }

    private static void products() {
        Check.about("promise 15", "0 if it is of another kind");
        expect(0, -1, 0, 1);
        expect(0, -1, 0, 0, 1);
        expect(0, 6, 0, -5, 0, 1);
        expect(0, -2, -2, 0, 1, 1);
        expect(0, -300, 0, 300);
    }

    private static void powers() {
        Check.about("promise 15", "0 if it is of another kind");
        expect(0, 0, 0, 1);
        expect(0, 0, 0, 0, 300);
        expect(0, 0, 0, 0, 0, -1);
        expect(0, 1, 0, 2, 0, 1);
        expect(0, 1, 3, 3, 1);
    }

    private static void degreesAboveFour() {
        Check.about("promise 15", "or a DEGREE above 4.");
        expect(0, -2, 0, 0, 0, 0, 1);
        expect(0, -2, 0, 0, 0, 0, 0, 1);
        expect(0, 0, 0, 0, 0, 0, 1);
        GaloisDesk desk = Check.deskWith(1, 1, 0, 0, 1, 1);
        Check.same("of degree 5", desk.galois(0), 0);
        desk.set(0, 5, 0);
        Check.same("of degree 4 then", desk.galois(0), 9);
    }

    private static void leastAndGreatestCoefficients() {
        Check.about("promise 15, Terms", "COEFFICIENTS 0 .. 6 of x to the 0 .. 6, from -300 to 300.");
        expect(4, 300, 299, -300, -300);
        expect(5, -298, 297, -254, 297, -298);
        expect(6, 162, 216, -216, -192, 47);
        expect(7, 300, -300, 299, -300, 300);
        expect(8, 257, -276, 102, 148, 69);
        expect(9, -300, -300, 300, 300, -299);
    }

    private static void changesNothing() {
        Check.about("promise 15", "GALOIS of a SLOT's");
        Edge.leavesAll("galois(5)", Edge.furnished(), d -> d.galois(5), 3);
        Edge.leavesAll("galois(1)", Edge.furnished(), d -> d.galois(1), 1);
        Edge.leavesAll("galois(7), of a product", Edge.furnished(), d -> d.galois(7), 0);
        Edge.leavesAll("galois(4), of a number", Edge.furnished(), d -> d.galois(4), 0);
        Edge.leavesAll("galois(2), of degree 6", Edge.furnished(), d -> d.galois(2), 0);
    }

    private static void firstAndLastSlot() {
        Check.about("promise 15, Terms", "SLOTS 0 .. 7 have a POLYNOMIAL each");
        GaloisDesk desk = Check.deskWith(0, 1);
        Check.load(desk, 7, 1, 0, 1);
        Check.same("galois(0)", desk.galois(0), 1);
        Check.same("galois(7)", desk.galois(7), 2);
    }

    private static void wrongSlots() {
        Check.about("promise 15", "IllegalArgument.");
        for (int slot : Edge.NO_SLOTS) {
            Edge.refused("galois(" + slot + ")", d -> d.galois(slot));
        }
    }
}
