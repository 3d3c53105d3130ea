/** Promise 13, pattern: a test for each sentence that names a boundary case. */
public final class Promise13Test {
    public static void main(String[] args) {
        leastAndGreatestPrime();
        noPrimes();
        primesBeyond();
        everyPrime();
        wrongSlots();
        throwsBeforeZeroAndNone();
        ofNumbers();
        ofZero();
        leadIsDivided();
        leadIsNotDivided();
        twiceModuloThePrime();
        onceModuloThePrime();
        noneOnANewObject();
        lowestDegree();
        mostDegrees();
        highestDegree();
        leastDegreeFirst();
        fewerThanBefore();
        changesNoOther();
        firstAndLastSlot();
        Check.end();
    }

    private static void expect(GaloisDesk desk, int prime, int... degrees) {
        Check.same("pattern(0, " + prime + ")", desk.pattern(0, prime), degrees.length);
        Check.degrees("pattern(0, " + prime + ")", desk, degrees);
    }

    private static void leastAndGreatestPrime() {
        Check.about("promise 13", "IllegalArgument: no prime 2 .. 997.");
        GaloisDesk desk = Check.deskWith(0, 1, 1);
        expect(desk, 2, 1, 1);
        expect(desk, 3, 1, 1);
        expect(desk, 991, 1, 1);
        expect(desk, 997, 1, 1);
    }

    private static void noPrimes() {
        Check.about("promise 13", "IllegalArgument: no prime 2 .. 997.");
        int[] none = {1, 0, -1, -2, -3, -997, 4, 6, 8, 9, 15, 25, 49, 91, 341, 561, 899, 961, 989, 993, 995, 996};
        for (int number : none) {
            Edge.refused("pattern(1, " + number + ")", d -> d.pattern(1, number));
        }
    }

    private static void primesBeyond() {
        Check.about("promise 13", "IllegalArgument: no prime 2 .. 997.");
        int[] beyond = {998, 999, 1000, 1009, 65537, Integer.MIN_VALUE, Integer.MAX_VALUE};
        for (int number : beyond) {
            Edge.refused("pattern(1, " + number + ")", d -> d.pattern(1, number));
        }
    }

    private static void everyPrime() {
        Check.about("promise 13", "IllegalArgument: no prime 2 .. 997.");
        boolean[] divided = new boolean[1000];
        for (int n = 0; n < 1000; n++) {
            for (int m = 2 * n; n > 1 && m < 1000; m += n) {
                divided[m] = true;
            }
            int number = n;
            GaloisDesk desk = Check.deskWith(1, 1);
            if (n < 2 || divided[n]) {
                Check.refused("pattern(0, " + n + ")", () -> desk.pattern(0, number));
            } else {
                Check.same("pattern(0, " + n + ")", desk.pattern(0, n), 1);
            }
        }
    }

    private static void wrongSlots() {
        Check.about("promise 13, Terms", "IllegalArgument is thrown where a number is none of those told here.");
        for (int slot : Edge.NO_SLOTS) {
            Edge.refused("pattern(" + slot + ", 5)", d -> d.pattern(slot, 5));
            Edge.refused("pattern(" + slot + ", 4)", d -> d.pattern(slot, 4));
        }
    }

    private static void throwsBeforeZeroAndNone() {
        Check.about("promise 13, Terms", "What throws changes nothing.");
        Edge.refused("pattern(6, 4), of 0", d -> d.pattern(6, 4));
        Edge.refused("pattern(4, 1), of a number", d -> d.pattern(4, 1));
        Edge.refused("pattern(2, 6), whose lead is divided", d -> d.pattern(2, 6));
    }

    private static void ofNumbers() {
        Check.about("promise 13", "or ZERO for a POLYNOMIAL of DEGREE 0 or 0 (with both none is told any more).");
        int[] primes = {2, 5, 997};
        for (int prime : primes) {
            GaloisDesk desk = Edge.furnished();
            Check.same("pattern(4, " + prime + ") of 5", desk.pattern(4, prime), GaloisDesk.ZERO);
            Check.degrees("pattern(4, " + prime + ") of 5", desk);
        }
    }

    private static void ofZero() {
        Check.about("promise 13", "or ZERO for a POLYNOMIAL of DEGREE 0 or 0 (with both none is told any more).");
        int[] primes = {2, 997};
        for (int prime : primes) {
            GaloisDesk desk = Edge.furnished();
            Check.same("pattern(6, " + prime + ") of 0", desk.pattern(6, prime), GaloisDesk.ZERO);
            Check.degrees("pattern(6, " + prime + ") of 0", desk);
        }
    }

    private static void none(String what, int prime, int... coefficients) {
        GaloisDesk desk = Edge.furnished();
        Check.load(desk, 7, coefficients);
        Check.degrees("before", desk, 1, 1, 2, 2);
        Check.same(what, desk.pattern(7, prime), GaloisDesk.NONE);
        Check.degrees(what + ": none is told any more", desk);
    }

    private static void leadIsDivided() {
        Check.about("promise 13, Terms", "there is none if the prime divides its LEAD");
        none("2 x + 1 modulo 2", 2, 1, 2);
        none("300 x^6 + x + 1 modulo 5", 5, 1, 1, 0, 0, 0, 0, 300);
        none("-7 x^2 + x modulo 7", 7, 0, 1, -7);
        none("3 x + 3 modulo 3, which divides all", 3, 3, 3);
        none("299 x + 1 modulo 23", 23, 1, 299);
        none("293 x modulo 293", 293, 0, 293);
    }

    private static void leadIsNotDivided() {
        Check.about("promise 13, Terms", "there is none if the prime divides its LEAD");
        expect(Check.deskWith(1, 1, 0, 0, 0, 0, 300), 307, 6);
        expect(Check.deskWith(7, 7, 1), 2, 2);
        expect(Check.deskWith(0, 293), 2, 1);
        expect(Check.deskWith(-300, 1), 2, 1);
    }

    private static void twiceModuloThePrime() {
        Check.about("promise 13, Terms", "or if one of them is there twice.");
        none("x^2 + 1 modulo 2", 2, 1, 0, 1);
        none("x^2 modulo 997", 997, 0, 0, 1);
        none("x^6 + 2 x^3 + 1 modulo 11", 11, 1, 0, 0, 2, 0, 0, 1);
        none("x^3 - 1 modulo 3", 3, -1, 0, 0, 1);
        none("x^2 - 3 modulo 3", 3, -3, 0, 1);
        none("x (x - 5) modulo 5", 5, 0, -5, 1);
        none("(x^2 + x + 1)^2 x modulo 2", 2, 0, 1, 2, 3, 2, 1);
    }

    private static void onceModuloThePrime() {
        Check.about("promise 13, Terms", "or if one of them is there twice.");
        expect(Check.deskWith(1, 0, 1), 5, 1, 1);
        expect(Check.deskWith(-3, 0, 1), 11, 1, 1);
        expect(Check.deskWith(-3, 0, 1), 5, 2);
        expect(Check.deskWith(0, -5, 1), 7, 1, 1);
    }

    private static void noneOnANewObject() {
        Check.about("promise 13", "or NONE, or ZERO for a POLYNOMIAL of DEGREE 0 or 0");
        Edge.leavesAll("pattern(0, 2) of 0", new GaloisDesk(), d -> d.pattern(0, 2), GaloisDesk.ZERO);
        Edge.leavesAll("pattern(0, 2) of 2 x", Check.deskWith(0, 2), d -> d.pattern(0, 2), GaloisDesk.NONE);
    }

    private static void lowestDegree() {
        Check.about("promise 13, Terms", "of a POLYNOMIAL of a DEGREE above 0 with COEFFICIENTS modulo that prime");
        expect(Check.deskWith(0, 1), 2, 1);
        expect(Check.deskWith(-300, 299), 997, 1);
        expect(Check.deskWith(5, -1), 5, 1);
    }

    private static void mostDegrees() {
        Check.about("promise 13", "The PATTERN is told: how many DEGREES");
        expect(Check.deskWith(-1, 0, 0, 0, 0, 0, 1), 7, 1, 1, 1, 1, 1, 1);
        expect(Check.deskWith(0, -12, 4, 15, -5, -3, 1), 997, 1, 1, 1, 1, 1, 1);
    }

    private static void highestDegree() {
        Check.about("promise 13", "The PATTERN is told: how many DEGREES");
        expect(Check.deskWith(1, 1, 0, 0, 0, 0, 1), 2, 6);
        expect(Check.deskWith(1, 1, 1, 1, 1, 1, 1), 3, 6);
        expect(Check.deskWith(1, 0, 1, 0, 0, 1), 2, 5);
    }

    private static void leastDegreeFirst() {
        Check.about("promise 13, Terms", "(those that are no product modulo it), the least first");
        expect(Check.deskWith(0, 1, 0, 0, 0, 1, 1), 2, 1, 2, 3);
        expect(Check.deskWith(-1, 0, 0, 0, 0, 0, 1), 5, 1, 1, 2, 2);
        expect(Check.deskWith(-2, 0, 0, 1), 5, 1, 2);
    }

    private static void fewerThanBefore() {
        Check.about("promise 13", "The PATTERN is told: how many DEGREES");
        GaloisDesk desk = Check.deskWith(-1, 0, 0, 0, 0, 0, 1);
        expect(desk, 7, 1, 1, 1, 1, 1, 1);
        Check.load(desk, 0, 1, 1, 1);
        Check.degrees("what is told stays when the slot changes", desk, 1, 1, 1, 1, 1, 1);
        expect(desk, 2, 2);
    }

    private static void changesNoOther() {
        Check.about("promise 13", "The PATTERN is told: how many DEGREES");
        Edge.leavesAll("pattern(0, 5) again", Edge.furnished(), d -> d.pattern(0, 5), 4);
        GaloisDesk desk = Edge.furnished();
        desk.pattern(5, 2);
        desk.pattern(6, 2);
        desk.pattern(2, 2);
        Check.slot("patterns", desk, 5, 1, -3, 0, 1);
        Check.slot("patterns", desk, 2, 0, 0, 0, 0, 0, 0, 300);
        Check.same("content()", desk.content(), 2);
        Check.part("patterns leave the parts", desk, 0, 1, -1, 1);
        Check.part("patterns leave the parts", desk, 3, 1, 1, 1, 1);
    }

    private static void firstAndLastSlot() {
        Check.about("promise 13, Terms", "SLOTS 0 .. 7 have a POLYNOMIAL each");
        GaloisDesk desk = Check.deskWith(0, 1);
        Check.load(desk, 7, 1, 1, 1);
        Check.same("pattern(0, 2)", desk.pattern(0, 2), 1);
        Check.degrees("pattern(0, 2)", desk, 1);
        Check.same("pattern(7, 2)", desk.pattern(7, 2), 1);
        Check.degrees("pattern(7, 2)", desk, 2);
    }
}
