/** Promise 5, multiply: a test for each sentence that names a boundary case. */
public final class Promise05Test {
    public static void main(String[] args) {
        degreeSixFits();
        degreesAboveSix();
        greatestThatFits();
        nextThatIsFull();
        fullInTheMiddle();
        fitsThoughItsTermsDoNot();
        fullAtTheFarthest();
        timesZero();
        timesNumbers();
        firstAndLastSlot();
        ownSlots();
        wrongSlots();
        throwsBeforeFull();
        Check.end();
    }

    /** Slots 0 and 1 are these numbers times x to the i and to the j; slot 7 is not 0. */
    private static GaloisDesk singles(int i, int c, int j, int e) {
        GaloisDesk desk = new GaloisDesk();
        desk.set(0, i, c);
        desk.set(1, j, e);
        desk.set(7, 2, 4);
        return desk;
    }

    private static int[] single(int k, int c) {
        int[] row = new int[7];
        row[k] = c;
        return row;
    }

    private static void degreeSixFits() {
        Check.about("promise 5, Terms", "FULL: what would come has a DEGREE above 6");
        for (int i = 0; i <= 6; i++) {
            Edge.changesSlot("x^" + i + " times x^" + (6 - i), singles(i, 1, 6 - i, 1), d -> d.multiply(7, 0, 1), 6,
                    7, single(6, 1));
        }
    }

    private static void degreesAboveSix() {
        Check.about("promise 5, Terms", "FULL: what would come has a DEGREE above 6");
        for (int i = 1; i <= 6; i++) {
            for (int j = 7 - i; j <= 6; j++) {
                Edge.leavesAll("x^" + i + " times x^" + j, singles(i, 1, j, -1), d -> d.multiply(7, 0, 1),
                        GaloisDesk.FULL);
            }
        }
    }

    private static void greatestThatFits() {
        Check.about("promise 5, Terms", "COEFFICIENTS 0 .. 6 of x to the 0 .. 6, from -300 to 300.");
        for (int k = 0; k <= 6; k++) {
            Edge.changesSlot("300 at " + k, singles(k, 60, 0, 5), d -> d.multiply(7, 0, 1), k, 7, single(k, 300));
            Edge.changesSlot("-300 at " + k, singles(0, 60, k, -5), d -> d.multiply(7, 0, 1), k, 7, single(k, -300));
        }
    }

    private static void nextThatIsFull() {
        Check.about("promise 5", "or FULL");
        for (int k = 0; k <= 6; k++) {
            Edge.leavesAll("301 at " + k, singles(k, 43, 0, 7), d -> d.multiply(7, 0, 1), GaloisDesk.FULL);
            Edge.leavesAll("-301 at " + k, singles(0, 43, k, -7), d -> d.multiply(7, 0, 1), GaloisDesk.FULL);
        }
    }

    private static void fullInTheMiddle() {
        Check.about("promise 5, Terms", "FULL: what would come has a DEGREE above 6, or a COEFFICIENT out of these"
                + " bounds");
        GaloisDesk desk = Check.deskWith(1, 150, 1);
        Edge.leavesAll("22502 between 1 and 1", desk, d -> d.multiply(7, 0, 0), GaloisDesk.FULL);
        GaloisDesk fits = Check.deskWith(1, 150);
        Check.load(fits, 1, 1, 2);
        Edge.changesSlot("152 x in the middle", fits, d -> d.multiply(7, 0, 1), 2, 7, 1, 152, 300);
    }

    private static void fitsThoughItsTermsDoNot() {
        Check.about("promise 5, Terms", "FULL: what would come has a DEGREE above 6, or a COEFFICIENT out of these"
                + " bounds");
        GaloisDesk desk = Check.deskWith(17, 18, 17);
        Check.load(desk, 1, 17, -18, 17);
        Edge.changesSlot("289 - 324 + 289", desk, d -> d.multiply(7, 0, 1), 4, 7, 289, 0, 254, 0, 289);
    }

    private static void fullAtTheFarthest() {
        Check.about("promise 5, Terms", "FULL: what would come has a DEGREE above 6, or a COEFFICIENT out of these"
                + " bounds; then nothing changes.");
        GaloisDesk desk = Check.deskWith(300, 300, 300, 300, 300, 300, 300);
        Edge.leavesAll("300 everywhere, by itself", desk, d -> d.multiply(0, 0, 0), GaloisDesk.FULL);
        Edge.leavesAll("90000", singles(0, 300, 0, 300), d -> d.multiply(1, 0, 1), GaloisDesk.FULL);
        Edge.leavesAll("-90000", singles(0, 300, 0, -300), d -> d.multiply(0, 0, 1), GaloisDesk.FULL);
        Edge.leavesAll("65536, that a narrower number takes for 0", singles(0, 256, 0, 256),
                d -> d.multiply(7, 0, 1), GaloisDesk.FULL);
        Edge.leavesAll("told ones stay", Edge.furnished(), d -> d.multiply(7, 2, 1), GaloisDesk.FULL);
    }

    private static void timesZero() {
        Check.about("promise 5, Terms", "Its DEGREE is that of the highest one that is not 0 (NONE for 0)");
        Edge.changesSlot("multiply(7, 2, 6)", Edge.furnished(), d -> d.multiply(7, 2, 6), GaloisDesk.NONE, 7);
        Edge.changesSlot("multiply(7, 6, 2)", Edge.furnished(), d -> d.multiply(7, 6, 2), GaloisDesk.NONE, 7);
        Edge.changesSlot("multiply(7, 6, 6)", Edge.furnished(), d -> d.multiply(7, 6, 6), GaloisDesk.NONE, 7);
    }

    private static void timesNumbers() {
        Check.about("promise 5", "Slot to gets a times b: its DEGREE");
        Edge.changesSlot("-1 times 300 x^6", singles(6, 300, 0, -1), d -> d.multiply(7, 0, 1), 6, 7,
                single(6, -300));
        Edge.changesSlot("a number times a number", singles(0, -20, 0, 15), d -> d.multiply(7, 0, 1), 0, 7, -300);
    }

    private static void firstAndLastSlot() {
        Check.about("promise 5", "Slot to gets a times b: its DEGREE");
        GaloisDesk desk = Check.deskWith(1, 2);
        Edge.changesSlot("multiply(7, 0, 0)", desk, d -> d.multiply(7, 0, 0), 2, 7, 1, 4, 4);
        Edge.changesSlot("multiply(0, 7, 7)", desk, d -> d.multiply(0, 7, 7), 4, 0, 1, 8, 24, 32, 16);
    }

    private static void ownSlots() {
        Check.about("promise 5", "Slot to gets a times b: its DEGREE");
        GaloisDesk desk = Check.deskWith(1, 2);
        Check.load(desk, 1, 3, 0, -1);
        Edge.changesSlot("to is a", desk, d -> d.multiply(0, 0, 1), 3, 0, 3, 6, -1, -2);
        Edge.changesSlot("to is b", desk, d -> d.multiply(1, 0, 1), 5, 1, 9, 18, -6, -12, 1, 2);
        Edge.changesSlot("to is both", Check.deskWith(1, 2), d -> d.multiply(0, 0, 0), 2, 0, 1, 4, 4);
    }

    private static void wrongSlots() {
        Check.about("promise 5", "IllegalArgument.");
        for (int slot : Edge.NO_SLOTS) {
            Edge.refused("multiply(" + slot + ", 1, 5)", d -> d.multiply(slot, 1, 5));
            Edge.refused("multiply(7, " + slot + ", 5)", d -> d.multiply(7, slot, 5));
            Edge.refused("multiply(7, 1, " + slot + ")", d -> d.multiply(7, 1, slot));
        }
    }

    private static void throwsBeforeFull() {
        Check.about("promise 5, Terms", "IllegalArgument is thrown where a number is none of those told here.");
        Edge.refused("multiply(8, 2, 2)", d -> d.multiply(8, 2, 2));
        Edge.refused("multiply(-1, 6, 6)", d -> d.multiply(-1, 6, 6));
        Edge.refused("multiply(7, 6, 8)", d -> d.multiply(7, 6, 8));
        Edge.refused("multiply(7, 8, 6)", d -> d.multiply(7, 8, 6));
    }
}
