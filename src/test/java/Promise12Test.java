/** Promise 12, content: a test for each sentence that names a boundary case. */
public final class Promise12Test {
    public static void main(String[] args) {
        beforeSomeAreTold();
        afterZeroOnANewObject();
        afterRefusedOnANewObject();
        leastAndGreatest();
        signOfTheLead();
        greatestThatDivides();
        zeroLeavesIt();
        numbersAfterOthers();
        changesNothing();
        Check.end();
    }

    private static void expect(int content, int... coefficients) {
        GaloisDesk desk = Check.deskWith(coefficients);
        desk.parts(0);
        Check.same("content() of " + java.util.Arrays.toString(coefficients), desk.content(), content);
    }

    private static void beforeSomeAreTold() {
        Check.about("promise 12", "0 before some are told.");
        GaloisDesk desk = Check.deskWith(-6, 0, 6);
        Check.same("content() on a new object", desk.content(), 0);
        desk.pattern(0, 5);
        desk.galois(0);
        desk.common(1, 0, 0);
        desk.divide(2, 0, 0);
        Check.same("content() after calls that tell no parts", desk.content(), 0);
    }

    private static void afterZeroOnANewObject() {
        Check.about("promise 12", "0 before some are told.");
        GaloisDesk desk = new GaloisDesk();
        Check.same("parts(0)", desk.parts(0), GaloisDesk.ZERO);
        Check.same("content() after ZERO", desk.content(), 0);
    }

    private static void afterRefusedOnANewObject() {
        Check.about("promise 12", "0 before some are told.");
        GaloisDesk desk = Check.deskWith(-6, 0, 6);
        Check.refused("parts(8)", () -> desk.parts(8));
        Check.same("content() after a refused call", desk.content(), 0);
    }

    private static void leastAndGreatest() {
        Check.about("promise 12", "Their CONTENT");
        expect(300, 300);
        expect(-300, -300);
        expect(1, 1);
        expect(-1, -1);
        expect(300, 300, 0, -300, 0, 0, 0, 300);
        expect(-300, 300, 0, 300, 0, 0, 0, -300);
        expect(1, 299, 300);
    }

    private static void signOfTheLead() {
        Check.about("promise 12, Terms", "its CONTENT, a number (the greatest that divides its COEFFICIENTS,"
                + " with the sign of its LEAD)");
        expect(2, -2, -4, -6, 2);
        expect(-2, 2, 4, 6, -2);
        expect(-1, 1, 1, 1, 1, 1, 1, -1);
        expect(5, -5, 5);
        expect(-5, 5, -5);
    }

    private static void greatestThatDivides() {
        Check.about("promise 12, Terms", "its CONTENT, a number (the greatest that divides its COEFFICIENTS,"
                + " with the sign of its LEAD)");
        expect(6, 12, 0, 18);
        expect(1, 6, 10, 15);
        expect(150, 300, 150);
        expect(4, 0, 0, 0, 8, 0, 0, 12);
        expect(-7, 0, -7);
    }

    private static void zeroLeavesIt() {
        Check.about("promise 9", "or ZERO (what was told stays then).");
        GaloisDesk desk = Check.deskWith(-6, 0, -6);
        desk.parts(0);
        desk.parts(1);
        Check.same("content() after ZERO", desk.content(), -6);
        Check.load(desk, 0, 5);
        Check.same("content() after the slot changed", desk.content(), -6);
    }

    private static void numbersAfterOthers() {
        Check.about("promise 12", "Their CONTENT");
        GaloisDesk desk = Check.deskWith(-6, 0, -6);
        desk.parts(0);
        Check.load(desk, 1, 1);
        desk.parts(1);
        Check.same("content() of 1 after -6", desk.content(), 1);
    }

    private static void changesNothing() {
        Check.about("promise 12", "Their CONTENT");
        Edge.leavesAll("content()", Edge.furnished(), d -> d.content(), 2);
    }
}
