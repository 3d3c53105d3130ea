/** Promise 11, times: a test for each sentence that names a boundary case. */
public final class Promise11Test {
    public static void main(String[] args) {
        beforeSomeAreTold();
        fromOnceToSixTimes();
        firstAndLast();
        noSuchPart();
        ofNumbers();
        afterFewer();
        changesNothing();
        Check.end();
    }

    private static void beforeSomeAreTold() {
        Check.about("promise 11", "0 if there is none.");
        GaloisDesk desk = Check.deskWith(-1, 0, 1);
        desk.pattern(0, 5);
        desk.galois(0);
        desk.common(1, 0, 0);
        for (int i = -1; i <= 6; i++) {
            Check.same("times(" + i + ") before", desk.times(i), 0);
        }
    }

    private static void fromOnceToSixTimes() {
        Check.about("promise 11", "How often the i-th is there");
        for (int n = 1; n <= 6; n++) {
            GaloisDesk desk = new GaloisDesk();
            desk.set(0, n, 1);
            desk.parts(0);
            Check.same("times(0) of x^" + n, desk.times(0), n);
        }
    }

    private static void firstAndLast() {
        Check.about("promise 11", "How often the i-th is there");
        GaloisDesk desk = Check.deskWith(0, -12, 4, 15, -5, -3, 1);
        desk.parts(0);
        for (int i = 0; i < 6; i++) {
            Check.same("times(" + i + ") of six", desk.times(i), 1);
        }
        Check.load(desk, 0, 0, -1, 1, 2, -2, -1, 1);
        desk.parts(0);
        Check.same("(x - 1)^3", desk.times(0), 3);
        Check.same("x", desk.times(1), 1);
        Check.same("(x + 1)^2", desk.times(2), 2);
    }

    private static void noSuchPart() {
        Check.about("promise 11", "0 if there is none.");
        GaloisDesk desk = Check.deskWith(0, -12, 4, 15, -5, -3, 1);
        desk.parts(0);
        int[] far = {-2, -1, 6, 7, 8, 256, Integer.MIN_VALUE, Integer.MAX_VALUE};
        for (int i : far) {
            Check.same("times(" + i + ") of six", desk.times(i), 0);
        }
        Check.load(desk, 0, 3, 3);
        desk.parts(0);
        for (int i = 1; i <= 6; i++) {
            Check.same("times(" + i + ") of one", desk.times(i), 0);
        }
    }

    private static void ofNumbers() {
        Check.about("promise 11", "0 if there is none.");
        GaloisDesk desk = Check.deskWith(-7);
        desk.parts(0);
        Check.same("times(0) of a number", desk.times(0), 0);
        Check.same("times(-1) of a number", desk.times(-1), 0);
    }

    private static void afterFewer() {
        Check.about("promise 11", "How often the i-th is there");
        GaloisDesk desk = Check.deskWith(0, 0, 0, 0, 0, 0, 1);
        desk.parts(0);
        Check.load(desk, 0, 0, 0, 1);
        Check.same("what is told stays when the slot changes", desk.times(0), 6);
        desk.parts(0);
        Check.same("times(0) of x^2, after x^6", desk.times(0), 2);
    }

    private static void changesNothing() {
        Check.about("promise 11", "How often the i-th is there");
        Edge.leavesAll("times(3)", Edge.furnished(), d -> d.times(3), 1);
        Edge.leavesAll("times(4)", Edge.furnished(), d -> d.times(4), 0);
    }
}
