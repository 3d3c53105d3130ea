/** Promise 4, add: a test for each sentence that names a boundary case. */
public final class Promise04Test {
    public static void main(String[] args) {
        leastAndGreatestMultipliers();
        multipliersBeyond();
        firstAndLastSlot();
        sumThatIsZero();
        degreeSinks();
        slotsThatAreZero();
        greatestThatFits();
        nextThatIsFull();
        fullAtTheFarthest();
        fitsThoughItsTermsDoNot();
        fullBelowTheLead();
        ownSlots();
        wrongSlots();
        throwsBeforeFull();
        Check.end();
    }

    private static void leastAndGreatestMultipliers() {
        Check.about("promise 4", "IllegalArgument: also if p or q is not -10 .. 10.");
        int[] taken = {-10, -9, -1, 0, 1, 9, 10};
        for (int n : taken) {
            GaloisDesk desk = Check.deskWith(2, 3);
            Check.load(desk, 1, 5, 0, 7);
            int degree = n == 0 ? 1 : 2;
            Edge.changesSlot("add(2, 0, 1, 1, " + n + ")", desk, d -> d.add(2, 0, 1, 1, n), degree, 2,
                    2 + 5 * n, 3, 7 * n);
            Edge.changesSlot("add(3, 1, 0, " + n + ", 1)", desk, d -> d.add(3, 1, 0, n, 1), degree, 3,
                    2 + 5 * n, 3, 7 * n);
        }
    }

    private static void multipliersBeyond() {
        Check.about("promise 4", "IllegalArgument: also if p or q is not -10 .. 10.");
        int[] beyond = {-11, 11, 256, 65536, Integer.MIN_VALUE, Integer.MAX_VALUE};
        for (int n : beyond) {
            Edge.refused("add(7, 1, 5, " + n + ", 0)", d -> d.add(7, 1, 5, n, 0));
            Edge.refused("add(7, 1, 5, 0, " + n + ")", d -> d.add(7, 1, 5, 0, n));
            Edge.refused("add(7, 6, 6, " + n + ", " + n + ")", d -> d.add(7, 6, 6, n, n));
        }
    }

    private static void firstAndLastSlot() {
        Check.about("promise 4", "Slot to gets p times a, and q times b: its DEGREE");
        GaloisDesk desk = Check.deskWith(1, 2);
        Edge.changesSlot("add(7, 0, 0, 1, 1)", desk, d -> d.add(7, 0, 0, 1, 1), 1, 7, 2, 4);
        Edge.changesSlot("add(0, 7, 7, 1, 2)", desk, d -> d.add(0, 7, 7, 1, 2), 1, 0, 6, 12);
    }

    private static void sumThatIsZero() {
        Check.about("promise 4, Terms", "Its DEGREE is that of the highest one that is not 0 (NONE for 0)");
        Edge.changesSlot("add(7, 1, 1, 3, -3)", Edge.furnished(), d -> d.add(7, 1, 1, 3, -3), GaloisDesk.NONE, 7);
        Edge.changesSlot("add(7, 1, 2, 0, 0)", Edge.furnished(), d -> d.add(7, 1, 2, 0, 0), GaloisDesk.NONE, 7);
    }

    private static void degreeSinks() {
        Check.about("promise 4", "Slot to gets p times a, and q times b: its DEGREE");
        GaloisDesk desk = Check.deskWith(1, 0, 0, 4, 5, 6, 7);
        Check.load(desk, 1, 0, 0, 0, 4, 5, 6, 7);
        Edge.changesSlot("all but the last one cancels", desk, d -> d.add(2, 0, 1, 1, -1), 0, 2, 1);
    }

    private static void slotsThatAreZero() {
        Check.about("promise 4", "Slot to gets p times a, and q times b: its DEGREE");
        Edge.changesSlot("add(7, 6, 1, 10, -1)", Edge.furnished(), d -> d.add(7, 6, 1, 10, -1), 1, 7, -1, -1);
        Edge.changesSlot("add(7, 1, 6, -1, 10)", Edge.furnished(), d -> d.add(7, 1, 6, -1, 10), 1, 7, -1, -1);
        Edge.changesSlot("add(7, 6, 6, 10, 10)", Edge.furnished(), d -> d.add(7, 6, 6, 10, 10), GaloisDesk.NONE, 7);
    }

    private static int[] single(int k, int c) {
        int[] row = new int[7];
        row[k] = c;
        return row;
    }

    /** Slots 0 and 1 are 30 and 1, times x to the k. */
    private static GaloisDesk thirtyAndOne(int k) {
        GaloisDesk desk = new GaloisDesk();
        desk.set(0, k, 30);
        desk.set(1, k, 1);
        desk.set(7, 2, 4);
        return desk;
    }

    private static void greatestThatFits() {
        Check.about("promise 4, Terms", "COEFFICIENTS 0 .. 6 of x to the 0 .. 6, from -300 to 300.");
        for (int k = 0; k <= 6; k++) {
            Edge.changesSlot("300 at " + k, thirtyAndOne(k), d -> d.add(7, 0, 1, 10, 0), k, 7, single(k, 300));
            Edge.changesSlot("-300 at " + k, thirtyAndOne(k), d -> d.add(7, 0, 1, -10, 0), k, 7, single(k, -300));
        }
    }

    private static void nextThatIsFull() {
        Check.about("promise 4", "or FULL");
        for (int k = 0; k <= 6; k++) {
            Edge.leavesAll("301 at " + k, thirtyAndOne(k), d -> d.add(7, 0, 1, 10, 1), GaloisDesk.FULL);
            Edge.leavesAll("-301 at " + k, thirtyAndOne(k), d -> d.add(7, 0, 1, -10, -1), GaloisDesk.FULL);
        }
    }

    private static void fullAtTheFarthest() {
        Check.about("promise 4, Terms", "FULL: what would come has a DEGREE above 6, or a COEFFICIENT out of these"
                + " bounds; then nothing changes.");
        Edge.leavesAll("add(2, 2, 2, 10, 10)", Edge.furnished(), d -> d.add(2, 2, 2, 10, 10), GaloisDesk.FULL);
        Edge.leavesAll("add(7, 3, 3, 10, 10)", Edge.furnished(), d -> d.add(7, 3, 3, 10, 10), GaloisDesk.FULL);
        Edge.leavesAll("add(6, 2, 0, -10, -10)", Edge.furnished(), d -> d.add(6, 2, 0, -10, -10), GaloisDesk.FULL);
    }

    private static void fitsThoughItsTermsDoNot() {
        Check.about("promise 4, Terms", "FULL: what would come has a DEGREE above 6, or a COEFFICIENT out of these"
                + " bounds");
        GaloisDesk desk = Check.deskWith(300, -300, 300);
        Check.load(desk, 1, 270, -270, 299);
        Edge.changesSlot("add(2, 0, 1, 10, -10)", desk, d -> d.add(2, 0, 1, 10, -10), 2, 2, 300, -300, 10);
    }

    private static void fullBelowTheLead() {
        Check.about("promise 4, Terms", "FULL: what would come has a DEGREE above 6, or a COEFFICIENT out of these"
                + " bounds");
        GaloisDesk desk = Check.deskWith(1, 151, 0, 0, 0, 0, 1);
        Edge.leavesAll("302 below the lead", desk, d -> d.add(1, 0, 0, 1, 1), GaloisDesk.FULL);
        GaloisDesk other = Check.deskWith(151, 0, 1);
        Check.load(other, 1, -151, 0, 1);
        Edge.leavesAll("302, and the lead cancels", other, d -> d.add(1, 0, 1, 1, -1), GaloisDesk.FULL);
    }

    private static void ownSlots() {
        Check.about("promise 4", "Slot to gets p times a, and q times b: its DEGREE");
        GaloisDesk desk = Check.deskWith(3, -2);
        Check.load(desk, 1, 1, 0, 4);
        Edge.changesSlot("to is a", desk, d -> d.add(0, 0, 1, 2, 1), 2, 0, 7, -4, 4);
        Edge.changesSlot("to is b", desk, d -> d.add(1, 0, 1, 1, -1), 1, 1, 6, -4);
        Edge.changesSlot("to is both", Check.deskWith(3, -2), d -> d.add(0, 0, 0, 10, 10), 1, 0, 60, -40);
    }

    private static void wrongSlots() {
        Check.about("promise 4, Terms", "IllegalArgument is thrown where a number is none of those told here.");
        for (int slot : Edge.NO_SLOTS) {
            Edge.refused("add(" + slot + ", 1, 5, 1, 1)", d -> d.add(slot, 1, 5, 1, 1));
            Edge.refused("add(7, " + slot + ", 5, 1, 1)", d -> d.add(7, slot, 5, 1, 1));
            Edge.refused("add(7, 1, " + slot + ", 1, 1)", d -> d.add(7, 1, slot, 1, 1));
            Edge.refused("add(7, " + slot + ", 5, 0, 1)", d -> d.add(7, slot, 5, 0, 1));
            Edge.refused("add(7, 1, " + slot + ", 1, 0)", d -> d.add(7, 1, slot, 1, 0));
        }
    }

    private static void throwsBeforeFull() {
        Check.about("promise 4, Terms", "IllegalArgument is thrown where a number is none of those told here.");
        Edge.refused("add(8, 2, 2, 10, 10)", d -> d.add(8, 2, 2, 10, 10));
        Edge.refused("add(7, 2, 2, 11, 10)", d -> d.add(7, 2, 2, 11, 10));
        Edge.refused("add(7, 2, 2, 10, -11)", d -> d.add(7, 2, 2, 10, -11));
    }
}
