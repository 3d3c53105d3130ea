/** Promise 9, parts: a test for each sentence that names a boundary case. */
public final class Promise09Test {
    public static void main(String[] args) {
        zeroOnANewObject();
        zeroLeavesWhatWasTold();
        numbersHaveNone();
        lowestDegree();
        highestDegree();
        mostDifferentOnes();
        mostOften();
        countedWithoutContent();
        fewerThanBefore();
        numbersAfterOthers();
        degreesComeFirst();
        highestCoefficientsComeNext();
        leastNumberFirst();
        slotStays();
        firstAndLastSlot();
        wrongSlots();
        Check.end();
    }

    private static void told(String what, GaloisDesk desk, int count, int content) {
        Check.same(what + ": parts(0)", desk.parts(0), count);
        Check.same(what + ": content()", desk.content(), content);
        Check.noPartsFrom(what, desk, count);
    }

    private static void zeroOnANewObject() {
        Check.about("promise 9", "or ZERO (what was told stays then).");
        Edge.leavesAll("parts(0)", new GaloisDesk(), d -> d.parts(0), GaloisDesk.ZERO);
        Edge.leavesAll("parts(7)", new GaloisDesk(), d -> d.parts(7), GaloisDesk.ZERO);
    }

    private static void zeroLeavesWhatWasTold() {
        Check.about("promise 9", "or ZERO (what was told stays then).");
        Edge.leavesAll("parts(6)", Edge.furnished(), d -> d.parts(6), GaloisDesk.ZERO);
        GaloisDesk desk = Check.deskWith(-300);
        desk.parts(0);
        Edge.leavesAll("parts(1) after those of a number", desk, d -> d.parts(1), GaloisDesk.ZERO);
        Check.same("content()", desk.content(), -300);
    }

    private static void numbersHaveNone() {
        Check.about("promise 9", "how many different ones, without the CONTENT");
        int[] numbers = {-300, -36, -1, 1, 2, 300};
        for (int number : numbers) {
            told("the number " + number, Check.deskWith(number), 0, number);
        }
    }

    private static void lowestDegree() {
        Check.about("promise 9, Terms", "One of a DEGREE above 0 that is PRIMITIVE and is no product of two of"
                + " DEGREES above 0 is IRREDUCIBLE.");
        GaloisDesk desk = Check.deskWith(0, 1);
        told("x", desk, 1, 1);
        Check.part("x", desk, 0, 1, 0, 1);
        Check.load(desk, 0, -299, 300);
        told("300 x - 299", desk, 1, 1);
        Check.part("300 x - 299", desk, 0, 1, -299, 300);
    }

    private static void highestDegree() {
        Check.about("promise 9, Terms", "One of a DEGREE above 0 that is PRIMITIVE and is no product of two of"
                + " DEGREES above 0 is IRREDUCIBLE.");
        GaloisDesk desk = Check.deskWith(2, 0, 0, 0, 0, 0, -1);
        told("-x^6 + 2", desk, 1, -1);
        Check.part("-x^6 + 2", desk, 0, 1, -2, 0, 0, 0, 0, 0, 1);
        Check.load(desk, 0, 300, 300, 300, 300, 300, 300, 300);
        told("300 (x^6 + .. + 1)", desk, 1, 300);
        Check.part("300 (x^6 + .. + 1)", desk, 0, 1, 1, 1, 1, 1, 1, 1, 1);
    }

    private static void mostDifferentOnes() {
        Check.about("promise 9", "how many different ones, without the CONTENT");
        GaloisDesk desk = Check.deskWith(0, -12, 4, 15, -5, -3, 1);
        told("six of degree 1", desk, 6, 1);
        int[] constants = {-3, -2, -1, 0, 1, 2};
        for (int i = 0; i < 6; i++) {
            Check.part("six of degree 1", desk, i, 1, constants[i], 1);
        }
    }

    private static void mostOften() {
        Check.about("promise 9, Terms", "IRREDUCIBLE ones, each with how often, whose product it is");
        GaloisDesk desk = Check.deskWith(-1, -12, -60, -160, -240, -192, -64);
        told("-(2 x + 1)^6", desk, 1, -1);
        Check.part("-(2 x + 1)^6", desk, 0, 6, 1, 2);
        Check.load(desk, 0, 0, 0, 0, 0, 0, 300);
        told("300 x^5", desk, 1, 300);
        Check.part("300 x^5", desk, 0, 5, 0, 1);
        Check.load(desk, 0, 1, 0, 3, 0, 3, 0, 1);
        told("(x^2 + 1)^3", desk, 1, 1);
        Check.part("(x^2 + 1)^3", desk, 0, 3, 1, 0, 1);
    }

    private static void countedWithoutContent() {
        Check.about("promise 9", "how many different ones, without the CONTENT");
        GaloisDesk desk = Check.deskWith(-6, 0, 6);
        told("6 (x - 1)(x + 1)", desk, 2, 6);
        Check.load(desk, 0, 0, -300);
        told("-300 x", desk, 1, -300);
        Check.part("-300 x", desk, 0, 1, 0, 1);
    }

    private static void fewerThanBefore() {
        Check.about("promise 9", "PARTS of a SLOT's are told");
        GaloisDesk desk = Check.deskWith(0, -12, 4, 15, -5, -3, 1);
        desk.parts(0);
        Check.load(desk, 0, 0, 0, 2);
        told("2 x^2 after six others", desk, 1, 2);
        Check.part("2 x^2 after six others", desk, 0, 2, 0, 1);
    }

    private static void numbersAfterOthers() {
        Check.about("promise 9", "PARTS of a SLOT's are told");
        GaloisDesk desk = Check.deskWith(0, -12, 4, 15, -5, -3, 1);
        desk.parts(0);
        Check.load(desk, 0, -5);
        told("-5 after six others", desk, 0, -5);
    }

    private static void degreesComeFirst() {
        Check.about("promise 9, Terms", "by DEGREES, the least first");
        GaloisDesk desk = Check.deskWith(-5, -5, 0, -1, -1);
        told("-(x + 1)(x^3 + 5)", desk, 2, -1);
        Check.part("the lower degree has the lower numbers", desk, 0, 1, 1, 1);
        Check.part("the lower degree has the lower numbers", desk, 1, 1, 5, 0, 0, 1);
        Check.load(desk, 0, -70, -30, 0, 7, 3);
        told("(3 x + 7)(x^3 - 10)", desk, 2, 1);
        Check.part("the lower degree has the greater lead", desk, 0, 1, 7, 3);
        Check.part("the lower degree has the greater lead", desk, 1, 1, -10, 0, 0, 1);
    }

    private static void highestCoefficientsComeNext() {
        Check.about("promise 9, Terms", "then by COEFFICIENTS, the highest ones first");
        GaloisDesk desk = Check.deskWith(-9, -7, 2);
        told("(x + 1)(2 x - 9)", desk, 2, 1);
        Check.part("the lead before the rest", desk, 0, 1, 1, 1);
        Check.part("the lead before the rest", desk, 1, 1, -9, 2);
        Check.load(desk, 0, 12, 1, 6, 0, 1);
        told("(x^2 - x + 4)(x^2 + x + 3)", desk, 2, 1);
        Check.part("that of x before the last one", desk, 0, 1, 4, -1, 1);
        Check.part("that of x before the last one", desk, 1, 1, 3, 1, 1);
    }

    private static void leastNumberFirst() {
        Check.about("promise 9, Terms", "the highest ones first, the least number first.");
        GaloisDesk desk = Check.deskWith(0, -4, 0, 1);
        told("x (x - 2)(x + 2)", desk, 3, 1);
        Check.part("-2, 0, 2", desk, 0, 1, -2, 1);
        Check.part("-2, 0, 2", desk, 1, 1, 0, 1);
        Check.part("-2, 0, 2", desk, 2, 1, 2, 1);
        Check.load(desk, 0, 6, 0, -5, 0, 1);
        told("(x^2 - 3)(x^2 - 2)", desk, 2, 1);
        Check.part("-3, -2", desk, 0, 1, -3, 0, 1);
        Check.part("-3, -2", desk, 1, 1, -2, 0, 1);
    }

    private static void slotStays() {
        Check.about("promise 9", "PARTS of a SLOT's are told");
        GaloisDesk desk = Edge.furnished();
        Check.same("parts(3)", desk.parts(3), 2);
        Check.slot("parts(3)", desk, 3, 0, 0, 0, 0, 7, -300);
        Check.slot("parts(3)", desk, 0, -2, 0, 0, 0, 0, 0, 2);
        Check.degrees("parts(3) leaves the pattern", desk, 1, 1, 2, 2);
    }

    private static void firstAndLastSlot() {
        Check.about("promise 9, Terms", "SLOTS 0 .. 7 have a POLYNOMIAL each");
        GaloisDesk desk = Check.deskWith(0, 2);
        Check.load(desk, 7, 0, 0, 0, 3);
        Check.same("parts(0)", desk.parts(0), 1);
        Check.same("content()", desk.content(), 2);
        Check.same("parts(7)", desk.parts(7), 1);
        Check.same("content()", desk.content(), 3);
        Check.part("parts(7)", desk, 0, 3, 0, 1);
    }

    private static void wrongSlots() {
        Check.about("promise 9", "IllegalArgument.");
        for (int slot : Edge.NO_SLOTS) {
            Edge.refused("parts(" + slot + ")", d -> d.parts(slot));
        }
    }
}
