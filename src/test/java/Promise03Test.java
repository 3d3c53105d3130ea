/** Promise 3, get: a test for each sentence that names a boundary case. */
public final class Promise03Test {
    public static void main(String[] args) {
        firstAndLast();
        leastAndGreatest();
        aboveTheDegree();
        changesNothing();
        wrongSlots();
        wrongPlaces();
        Check.end();
    }

    private static void firstAndLast() {
        Check.about("promise 3", "A COEFFICIENT.");
        int[] ends = {0, 7};
        for (int slot : ends) {
            GaloisDesk desk = new GaloisDesk();
            Check.load(desk, slot, 11, 12, 13, 14, 15, 16, 17);
            for (int k = 0; k <= 6; k++) {
                Check.same("get(" + slot + ", " + k + ")", desk.get(slot, k), 11 + k);
                Check.same("get(" + (7 - slot) + ", " + k + ")", desk.get(7 - slot, k), 0);
            }
        }
    }

    private static void leastAndGreatest() {
        Check.about("promise 3", "A COEFFICIENT.");
        GaloisDesk desk = Check.deskWith(-300, 300, 0, -1, 1, 300, -300);
        Check.slot("least and greatest", desk, 0, -300, 300, 0, -1, 1, 300, -300);
    }

    private static void aboveTheDegree() {
        Check.about("promise 3", "A COEFFICIENT.");
        GaloisDesk desk = Check.deskWith(1, 2, 3, 4, 5, 6, 7);
        Check.load(desk, 1, 5, 5);
        desk.add(0, 1, 1, 1, 0);
        for (int k = 2; k <= 6; k++) {
            Check.same("get(0, " + k + ") above the degree", desk.get(0, k), 0);
        }
    }

    private static void changesNothing() {
        Check.about("promise 3", "A COEFFICIENT.");
        Edge.leavesAll("get(0, 6)", Edge.furnished(), d -> d.get(0, 6), 2);
    }

    private static void wrongSlots() {
        Check.about("promise 3", "IllegalArgument.");
        for (int slot : Edge.NO_SLOTS) {
            Edge.refused("get(" + slot + ", 0)", d -> d.get(slot, 0));
        }
    }

    private static void wrongPlaces() {
        Check.about("promise 3", "IllegalArgument.");
        for (int k : Edge.NO_PLACES) {
            Edge.refused("get(0, " + k + ")", d -> d.get(0, k));
            Edge.refused("get(7, " + k + ")", d -> d.get(7, k));
        }
    }
}
