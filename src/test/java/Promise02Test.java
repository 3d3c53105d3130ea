/** Promise 2, set: a test for each sentence that names a boundary case. */
public final class Promise02Test {
    public static void main(String[] args) {
        everyPlaceGivesItsDegree();
        degreeSinks();
        lowerOnesLeaveTheDegree();
        leastAndGreatestNumbers();
        firstAndLastSlot();
        toldOnesStay();
        numbersBeyond();
        wrongSlots();
        wrongPlaces();
        wrongInSeveral();
        Check.end();
    }

    private static void everyPlaceGivesItsDegree() {
        Check.about("promise 2", "A COEFFICIENT is told: the DEGREE then.");
        for (int k = 0; k <= 6; k++) {
            GaloisDesk desk = new GaloisDesk();
            Check.same("set(3, " + k + ", -1)", desk.set(3, k, -1), k);
            Check.same("set(3, " + k + ", 0)", desk.set(3, k, 0), GaloisDesk.NONE);
        }
    }

    private static void degreeSinks() {
        Check.about("promise 2", "A COEFFICIENT is told: the DEGREE then.");
        GaloisDesk desk = Check.deskWith(1, 2, 3, 4, 5, 6, 7);
        for (int k = 6; k >= 0; k--) {
            Check.same("set(0, " + k + ", 0)", desk.set(0, k, 0), k - 1);
        }
        desk.set(1, 6, 5);
        desk.set(1, 0, 5);
        Check.same("the lead goes, and all between are 0", desk.set(1, 6, 0), 0);
    }

    private static void lowerOnesLeaveTheDegree() {
        Check.about("promise 2", "A COEFFICIENT is told: the DEGREE then.");
        GaloisDesk desk = new GaloisDesk();
        desk.set(0, 6, 1);
        for (int k = 0; k < 6; k++) {
            Check.same("set(0, " + k + ", 9) below the lead", desk.set(0, k, 9), 6);
            Check.same("set(0, " + k + ", 0) below the lead", desk.set(0, k, 0), 6);
        }
    }

    private static void leastAndGreatestNumbers() {
        Check.about("promise 2", "IllegalArgument: also if c is not -300 .. 300.");
        int[] taken = {-300, -299, -1, 0, 1, 299, 300};
        for (int c : taken) {
            GaloisDesk desk = Check.deskWith(4, 4, 4);
            Edge.changesSlot("set(0, 1, " + c + ")", desk, d -> d.set(0, 1, c), 2, 0, 4, c, 4);
        }
    }

    private static void firstAndLastSlot() {
        Check.about("promise 2, Terms", "SLOTS 0 .. 7 have a POLYNOMIAL each (0 at first): COEFFICIENTS 0 .. 6");
        Edge.changesSlot("set(0, 0, 8)", new GaloisDesk(), d -> d.set(0, 0, 8), 0, 0, 8);
        Edge.changesSlot("set(0, 6, 8)", new GaloisDesk(), d -> d.set(0, 6, 8), 6, 0, 0, 0, 0, 0, 0, 0, 8);
        Edge.changesSlot("set(7, 0, 8)", new GaloisDesk(), d -> d.set(7, 0, 8), 0, 7, 8);
        Edge.changesSlot("set(7, 6, 8)", new GaloisDesk(), d -> d.set(7, 6, 8), 6, 7, 0, 0, 0, 0, 0, 0, 8);
    }

    private static void toldOnesStay() {
        Check.about("promise 2", "A COEFFICIENT is told: the DEGREE then.");
        Edge.changesSlot("set of the slot whose parts and pattern are told", Edge.furnished(), d -> d.set(0, 6, 0),
                0, 0, -2);
    }

    private static void numbersBeyond() {
        Check.about("promise 2", "IllegalArgument: also if c is not -300 .. 300.");
        int[] beyond = {-301, 301, 65536, -65536, Integer.MIN_VALUE, Integer.MAX_VALUE};
        for (int c : beyond) {
            Edge.refused("set(0, 6, " + c + ")", d -> d.set(0, 6, c));
            Edge.refused("set(7, 0, " + c + ")", d -> d.set(7, 0, c));
        }
    }

    private static void wrongSlots() {
        Check.about("promise 2", "IllegalArgument");
        for (int slot : Edge.NO_SLOTS) {
            Edge.refused("set(" + slot + ", 0, 1)", d -> d.set(slot, 0, 1));
        }
    }

    private static void wrongPlaces() {
        Check.about("promise 2", "IllegalArgument");
        for (int k : Edge.NO_PLACES) {
            Edge.refused("set(0, " + k + ", 1)", d -> d.set(0, k, 1));
            Edge.refused("set(0, " + k + ", 0)", d -> d.set(0, k, 0));
        }
    }

    private static void wrongInSeveral() {
        Check.about("promise 2, Terms", "What throws changes nothing.");
        Edge.refused("set(-1, -1, -301)", d -> d.set(-1, -1, -301));
        Edge.refused("set(8, 7, 301)", d -> d.set(8, 7, 301));
    }
}
