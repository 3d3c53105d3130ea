/** Promise 10, part: a test for each sentence that names a boundary case. */
public final class Promise10Test {
    public static void main(String[] args) {
        beforeSomeAreTold();
        firstAndLast();
        noSuchPart();
        noSuchPlace();
        ofNumbers();
        afterFewer();
        beyondTheSlots();
        changesNothing();
        Check.end();
    }

    private static final int[] FAR = {-2, -1, 6, 7, 8, 12, 13, 256, Integer.MIN_VALUE, Integer.MAX_VALUE};

    private static void beforeSomeAreTold() {
        Check.about("promise 10", "0 if there is none.");
        GaloisDesk desk = Check.deskWith(-1, 0, 1);
        desk.pattern(0, 5);
        desk.galois(0);
        desk.common(1, 0, 0);
        desk.divide(2, 0, 0);
        for (int i = -1; i <= 6; i++) {
            for (int k = -1; k <= 7; k++) {
                Check.same("part(" + i + ", " + k + ") before", desk.part(i, k), 0);
            }
        }
    }

    /** Six parts, x - 3 to x + 2, are told. */
    private static GaloisDesk six() {
        GaloisDesk desk = Check.deskWith(0, -12, 4, 15, -5, -3, 1);
        desk.parts(0);
        return desk;
    }

    private static void firstAndLast() {
        Check.about("promise 10", "COEFFICIENT k of the i-th, from 0 on");
        GaloisDesk desk = six();
        Check.same("part(0, 0)", desk.part(0, 0), -3);
        Check.same("part(0, 1)", desk.part(0, 1), 1);
        Check.same("part(5, 0)", desk.part(5, 0), 2);
        Check.same("part(5, 1)", desk.part(5, 1), 1);
        Check.load(desk, 0, 7, 2, 3, 4, 5, 6, 1);
        Check.same("parts(0)", desk.parts(0), 1);
        Check.same("part(0, 6)", desk.part(0, 6), 1);
        Check.same("part(0, 5)", desk.part(0, 5), 6);
    }

    private static void noSuchPart() {
        Check.about("promise 10", "0 if there is none.");
        GaloisDesk desk = six();
        for (int i : FAR) {
            Check.same("part(" + i + ", 0) of six", desk.part(i, 0), 0);
            Check.same("part(" + i + ", 1) of six", desk.part(i, 1), 0);
        }
        Check.load(desk, 0, 3, 3);
        desk.parts(0);
        for (int i = 1; i <= 6; i++) {
            Check.same("part(" + i + ", 0) of one", desk.part(i, 0), 0);
            Check.same("part(" + i + ", 1) of one", desk.part(i, 1), 0);
        }
    }

    private static void noSuchPlace() {
        Check.about("promise 10", "0 if there is none.");
        GaloisDesk desk = Check.deskWith(1, 1, 1, 1, 1, 1, 1);
        desk.parts(0);
        int[] beyond = {-2, -1, 7, 8, 12, 13, 14, 256, Integer.MIN_VALUE, Integer.MAX_VALUE};
        for (int k : beyond) {
            Check.same("part(0, " + k + ")", desk.part(0, k), 0);
        }
        GaloisDesk lines = six();
        for (int k = 2; k <= 7; k++) {
            Check.same("part(0, " + k + ") above the degree", lines.part(0, k), 0);
        }
    }

    private static void ofNumbers() {
        Check.about("promise 10", "0 if there is none.");
        GaloisDesk desk = Check.deskWith(-7);
        desk.parts(0);
        Check.same("part(0, 0) of a number", desk.part(0, 0), 0);
        Check.same("part(-1, 0) of a number", desk.part(-1, 0), 0);
    }

    private static void afterFewer() {
        Check.about("promise 10", "Of the PARTS told");
        GaloisDesk desk = six();
        Check.load(desk, 0, 1, 0, 1);
        Check.same("what is told stays when the slot changes", desk.part(5, 0), 2);
        desk.parts(0);
        Check.same("part(0, 2) of the later ones", desk.part(0, 2), 1);
        Check.same("part(0, 1) of the later ones", desk.part(0, 1), 0);
        Check.same("part(5, 0) of the later ones", desk.part(5, 0), 0);
    }

    private static void beyondTheSlots() {
        Check.about("promise 10, Terms", "DIVIDES: there is a POLYNOMIAL with whole COEFFICIENTS (of any size)");
        GaloisDesk desk = Check.deskWith(299, 151, -300, -300, -300, 151, 299);
        Check.same("parts(0)", desk.parts(0), 2);
        Check.part("(x - 1)^2", desk, 0, 2, -1, 1);
        Check.part("a part with 899", desk, 1, 1, 299, 749, 899, 749, 299);
        Check.load(desk, 0, 299, -151, -300, 300, -300, -151, 299);
        Check.same("parts(0)", desk.parts(0), 2);
        Check.part("(x + 1)^2", desk, 0, 2, 1, 1);
        Check.part("a part with -749", desk, 1, 1, 299, -749, 899, -749, 299);
    }

    private static void changesNothing() {
        Check.about("promise 10", "COEFFICIENT k of the i-th, from 0 on");
        Edge.leavesAll("part(3, 2)", Edge.furnished(), d -> d.part(3, 2), 1);
        Edge.leavesAll("part(4, 2)", Edge.furnished(), d -> d.part(4, 2), 0);
    }
}
