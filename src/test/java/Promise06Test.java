/** Promise 6, derive: a test for each sentence that names a boundary case. */
public final class Promise06Test {
    /** At k the greatest number that fits, times k, below 300; the next one does not fit any more. */
    private static final int[] GREATEST = {300, 300, 150, 100, 75, 60, 50};

    public static void main(String[] args) {
        everyDegree();
        greatestThatFits();
        nextThatIsFull();
        fullBelowTheLead();
        fullAtTheFarthest();
        numbersAndZero();
        firstAndLastSlot();
        ownSlot();
        wrongSlots();
        Check.end();
    }

    /** Slot 0 is a number times x to the k; slot 7 is not 0. */
    private static GaloisDesk single(int k, int c) {
        GaloisDesk desk = new GaloisDesk();
        desk.set(0, k, c);
        desk.set(7, 2, 4);
        return desk;
    }

    private static int[] row(int k, int c) {
        int[] row = new int[7];
        row[k] = c;
        return row;
    }

    private static void everyDegree() {
        Check.about("promise 6", "Slot to gets the derivative of a: its DEGREE");
        for (int k = 1; k <= 6; k++) {
            Edge.changesSlot("x^" + k, single(k, 1), d -> d.derive(7, 0), k - 1, 7, row(k - 1, k));
        }
    }

    private static void greatestThatFits() {
        Check.about("promise 6, Terms", "COEFFICIENTS 0 .. 6 of x to the 0 .. 6, from -300 to 300.");
        for (int k = 1; k <= 6; k++) {
            int c = GREATEST[k];
            Edge.changesSlot(c + " x^" + k, single(k, c), d -> d.derive(7, 0), k - 1, 7, row(k - 1, 300));
            Edge.changesSlot(-c + " x^" + k, single(k, -c), d -> d.derive(7, 0), k - 1, 7, row(k - 1, -300));
        }
    }

    private static void nextThatIsFull() {
        Check.about("promise 6", "or FULL");
        for (int k = 2; k <= 6; k++) {
            int c = GREATEST[k] + 1;
            Edge.leavesAll(c + " x^" + k, single(k, c), d -> d.derive(7, 0), GaloisDesk.FULL);
            Edge.leavesAll(-c + " x^" + k, single(k, -c), d -> d.derive(7, 0), GaloisDesk.FULL);
        }
    }

    private static void fullBelowTheLead() {
        Check.about("promise 6, Terms", "FULL: what would come has a DEGREE above 6, or a COEFFICIENT out of these"
                + " bounds");
        GaloisDesk desk = Check.deskWith(1, 1, -151, 0, 0, 0, 1);
        Edge.leavesAll("-302 x below the lead", desk, d -> d.derive(7, 0), GaloisDesk.FULL);
    }

    private static void fullAtTheFarthest() {
        Check.about("promise 6, Terms", "FULL: what would come has a DEGREE above 6, or a COEFFICIENT out of these"
                + " bounds; then nothing changes.");
        Edge.leavesAll("derive(2, 2) of 300 x^6", Edge.furnished(), d -> d.derive(2, 2), GaloisDesk.FULL);
        Edge.leavesAll("derive(7, 3) of -300 x^5 + 7 x^4", Edge.furnished(), d -> d.derive(7, 3), GaloisDesk.FULL);
    }

    private static void numbersAndZero() {
        Check.about("promise 6, Terms", "Its DEGREE is that of the highest one that is not 0 (NONE for 0)");
        Edge.changesSlot("of a number", Edge.furnished(), d -> d.derive(7, 4), GaloisDesk.NONE, 7);
        Edge.changesSlot("of 0", Edge.furnished(), d -> d.derive(7, 6), GaloisDesk.NONE, 7);
        Edge.changesSlot("of 300", single(0, 300), d -> d.derive(7, 0), GaloisDesk.NONE, 7);
    }

    private static void firstAndLastSlot() {
        Check.about("promise 6", "Slot to gets the derivative of a: its DEGREE");
        GaloisDesk desk = Check.deskWith(0, 1, 2, 3);
        Edge.changesSlot("derive(7, 0)", desk, d -> d.derive(7, 0), 2, 7, 1, 4, 9);
        Edge.changesSlot("derive(0, 7)", desk, d -> d.derive(0, 7), 1, 0, 4, 18);
    }

    private static void ownSlot() {
        Check.about("promise 6", "Slot to gets the derivative of a: its DEGREE");
        GaloisDesk desk = Check.deskWith(9, 8, 7, 6, 5, 4, 3);
        Edge.changesSlot("derive(0, 0)", desk, d -> d.derive(0, 0), 5, 0, 8, 14, 18, 20, 20, 18);
    }

    private static void wrongSlots() {
        Check.about("promise 6", "IllegalArgument.");
        for (int slot : Edge.NO_SLOTS) {
            Edge.refused("derive(" + slot + ", 5)", d -> d.derive(slot, 5));
            Edge.refused("derive(7, " + slot + ")", d -> d.derive(7, slot));
            Edge.refused("derive(" + slot + ", 2) that would be FULL", d -> d.derive(slot, 2));
            Edge.refused("derive(" + slot + ", 6) that would be 0", d -> d.derive(slot, 6));
        }
    }
}
