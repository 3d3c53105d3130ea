/** Promises 2 and 3: set and get. */
public final class SlotsTest {
    public static void main(String[] args) {
        degreesAnswered();
        everyPlaceIsItsOwn();
        bounds();
        Check.end();
    }

    private static void degreesAnswered() {
        GaloisDesk desk = new GaloisDesk();
        Check.same("set(0, 0, 0)", desk.set(0, 0, 0), GaloisDesk.NONE);
        Check.same("set(0, 0, 5)", desk.set(0, 0, 5), 0);
        Check.same("set(0, 6, -300)", desk.set(0, 6, -300), 6);
        Check.same("set(0, 3, 300)", desk.set(0, 3, 300), 6);
        Check.same("set(0, 6, 0)", desk.set(0, 6, 0), 3);
        Check.same("set(0, 3, 0)", desk.set(0, 3, 0), 0);
        Check.same("set(0, 0, 0) again", desk.set(0, 0, 0), GaloisDesk.NONE);
    }

    private static void everyPlaceIsItsOwn() {
        GaloisDesk desk = new GaloisDesk();
        for (int slot = 0; slot <= 7; slot++) {
            for (int k = 0; k <= 6; k++) {
                desk.set(slot, k, 10 * slot + k - 30);
            }
        }
        for (int slot = 0; slot <= 7; slot++) {
            for (int k = 0; k <= 6; k++) {
                Check.same("get(" + slot + ", " + k + ")", desk.get(slot, k), 10 * slot + k - 30);
            }
        }
    }

    private static void bounds() {
        GaloisDesk desk = Check.deskWith(1, 2, 3);
        int[] noSlots = {-1, 8, Integer.MIN_VALUE, Integer.MAX_VALUE};
        int[] noPlaces = {-1, 7, Integer.MIN_VALUE, Integer.MAX_VALUE};
        int[] noNumbers = {-301, 301, Integer.MIN_VALUE, Integer.MAX_VALUE};
        for (int slot : noSlots) {
            Check.refused("set(" + slot + ", 0, 1)", () -> desk.set(slot, 0, 1));
            Check.refused("get(" + slot + ", 0)", () -> desk.get(slot, 0));
        }
        for (int k : noPlaces) {
            Check.refused("set(0, " + k + ", 1)", () -> desk.set(0, k, 1));
            Check.refused("get(0, " + k + ")", () -> desk.get(0, k));
        }
        for (int c : noNumbers) {
            Check.refused("set(0, 0, " + c + ")", () -> desk.set(0, 0, c));
        }
        Check.slot("what throws changes nothing", desk, 0, 1, 2, 3);
    }
}
