/** Promise 15: galois. */
public final class GaloisTest {
    public static void main(String[] args) {
        lowDegrees();
        cubics();
        quartics();
        largeQuartics();
        otherKinds();
        nothingChanges();
        wrongNumbers();
        Check.end();
    }

    private static void expect(int group, int... coefficients) {
        GaloisDesk desk = Check.deskWith(coefficients);
        Check.same("galois of " + java.util.Arrays.toString(coefficients), desk.galois(0), group);
    }

    private static void lowDegrees() {
        expect(1, 0, 1);
        expect(1, 7, -3);
        expect(1, 300, 300);
        expect(2, 1, 0, 1);
        expect(2, -12, 0, 6);
        expect(2, 1, 1, -1);
        expect(2, -2, 0, 300);
    }

    private static void cubics() {
        expect(3, 1, -3, 0, 1);
        expect(3, -1, -6, 0, 8);
        expect(3, -5, 15, 0, -5);
        expect(3, -1, -2, 1, 1);
        expect(4, -2, 0, 0, 1);
        expect(4, 3, 0, 0, 2);
        expect(4, -1, -1, 0, 1);
        expect(4, 1, -4, 0, 1);
    }

    private static void quartics() {
        expect(5, 1, 0, 0, 0, 1);
        expect(5, 1, 0, -10, 0, 1);
        expect(5, -2, 0, 20, 0, -2);
        expect(6, 1, 1, 1, 1, 1);
        expect(6, 5, 0, -5, 0, 1);
        expect(6, 5, 0, -20, 0, 16);
        expect(6, -3, -3, -3, -3, -3);
        expect(7, -2, 0, 0, 0, 1);
        expect(7, 2, 0, 0, 0, -1);
        expect(7, 3, 0, 0, 0, 1);
        expect(7, -1, 0, -1, 0, 1);
        expect(7, 1, 3, 0, 3, 1);
        expect(8, 12, 8, 0, 0, 1);
        expect(8, 24, 16, 0, 0, 2);
        expect(8, 36, 24, 0, 0, 1);
        expect(9, -1, -1, 0, 0, 1);
        expect(9, 1, 1, 0, 0, 1);
    }

    private static void largeQuartics() {
        expect(5, -298, 297, -254, 297, -298);
        expect(6, 162, 216, -216, -192, 47);
        expect(7, 300, -300, 299, -300, 300);
        expect(8, 257, -276, 102, 148, 69);
        expect(9, -300, -300, 300, 300, -299);
        expect(0, 1, -300, 300, -300, 299);
    }

    private static void otherKinds() {
        expect(0);
        expect(0, 1);
        expect(0, -7);
        expect(0, -4, 0, 1);
        expect(0, 1, 2, 1);
        expect(0, 0, 0, 0, 1);
        expect(0, -1, 0, 0, 1);
        expect(0, 4, 0, 0, 0, 1);
        expect(0, 1, 0, 2, 0, 1);
        expect(0, -2, 0, 0, 0, 0, 1);
        expect(0, 3, 0, 0, 0, 0, 0, 1);
    }

    private static void nothingChanges() {
        GaloisDesk desk = Check.deskWith(1, -3, 0, 1);
        Check.load(desk, 1, -1, 0, 5);
        desk.parts(1);
        desk.pattern(1, 11);
        Check.same("galois(0)", desk.galois(0), 3);
        Check.slot("galois", desk, 0, 1, -3, 0, 1);
        Check.part("galois leaves the parts", desk, 0, 1, -1, 0, 5);
        Check.degrees("galois leaves the pattern", desk, 1, 1);
    }

    private static void wrongNumbers() {
        GaloisDesk desk = Check.deskWith(1, 1);
        int[] noSlots = {-1, 8, Integer.MIN_VALUE, Integer.MAX_VALUE};
        for (int slot : noSlots) {
            Check.refused("galois(" + slot + ")", () -> desk.galois(slot));
        }
    }
}
