/** Promises 4, 5 and 6: add, multiply and derive. */
public final class ArithmeticTest {
    public static void main(String[] args) {
        sums();
        fullSums();
        products();
        fullProducts();
        derivatives();
        wrongNumbers();
        Check.end();
    }

    private static void sums() {
        GaloisDesk desk = Check.deskWith(1, -2, 3);
        Check.load(desk, 1, 4, 0, 0, 5);
        Check.same("add(2, 0, 1, 2, -3)", desk.add(2, 0, 1, 2, -3), 3);
        Check.slot("add", desk, 2, -10, -4, 6, -15);
        Check.same("add(0, 0, 0, 10, -7)", desk.add(0, 0, 0, 10, -7), 2);
        Check.slot("add into its own", desk, 0, 3, -6, 9);
        Check.same("add(1, 1, 0, 0, 1)", desk.add(1, 1, 0, 0, 1), 2);
        Check.slot("add of one alone", desk, 1, 3, -6, 9);
        Check.same("add(2, 0, 1, 1, -1)", desk.add(2, 0, 1, 1, -1), GaloisDesk.NONE);
        Check.slot("add to 0", desk, 2);
    }

    private static void fullSums() {
        GaloisDesk desk = Check.deskWith(30, 0, -30);
        Check.load(desk, 1, 1, 0, -1);
        Check.load(desk, 2, 7, 7);
        Check.same("add(3, 0, 1, 10, 0)", desk.add(3, 0, 1, 10, 0), 2);
        Check.slot("add up to the bound", desk, 3, 300, 0, -300);
        Check.same("add(2, 0, 1, 10, 1)", desk.add(2, 0, 1, 10, 1), GaloisDesk.FULL);
        Check.same("add(2, 0, 1, -10, -1)", desk.add(2, 0, 1, -10, -1), GaloisDesk.FULL);
        Check.load(desk, 4, 0, 0, -300);
        Check.load(desk, 5, 0, 0, 1);
        Check.same("add(2, 4, 5, 1, -1)", desk.add(2, 4, 5, 1, -1), GaloisDesk.FULL);
        Check.same("add(2, 4, 5, -1, 1)", desk.add(2, 4, 5, -1, 1), GaloisDesk.FULL);
        Check.slot("FULL", desk, 2, 7, 7);
    }

    private static void products() {
        GaloisDesk desk = Check.deskWith(-1, 1, 0, 2);
        Check.load(desk, 1, 3, 0, 0, -4);
        Check.same("multiply(2, 0, 1)", desk.multiply(2, 0, 1), 6);
        Check.slot("multiply", desk, 2, -3, 3, 0, 10, -4, 0, -8);
        Check.same("multiply(0, 0, 0)", desk.multiply(0, 0, 0), 6);
        Check.slot("multiply into its own", desk, 0, 1, -2, 1, -4, 4, 0, 4);
        Check.same("multiply(2, 0, 7)", desk.multiply(2, 0, 7), GaloisDesk.NONE);
        Check.slot("multiply by 0", desk, 2);
        Check.same("multiply(2, 7, 0)", desk.multiply(2, 7, 0), GaloisDesk.NONE);
    }

    private static void fullProducts() {
        GaloisDesk desk = Check.deskWith(0, 0, 0, 1);
        Check.load(desk, 1, 0, 0, 0, 0, 1);
        Check.load(desk, 2, 150, 0, 1);
        Check.load(desk, 3, -2);
        Check.load(desk, 4, 3);
        Check.load(desk, 5, 9, 9);
        Check.same("multiply(5, 0, 1)", desk.multiply(5, 0, 1), GaloisDesk.FULL);
        Check.same("multiply(5, 1, 1)", desk.multiply(5, 1, 1), GaloisDesk.FULL);
        Check.same("multiply(5, 2, 4)", desk.multiply(5, 2, 4), GaloisDesk.FULL);
        Check.slot("FULL", desk, 5, 9, 9);
        Check.same("multiply(5, 2, 3)", desk.multiply(5, 2, 3), 2);
        Check.slot("multiply up to the bound", desk, 5, -300, 0, -2);
    }

    private static void derivatives() {
        GaloisDesk desk = Check.deskWith(7, -300, 150, 100, -75, 60, 50);
        Check.same("derive(1, 0)", desk.derive(1, 0), 5);
        Check.slot("derive", desk, 1, -300, 300, 300, -300, 300, 300);
        Check.same("derive(1, 1)", desk.derive(1, 1), GaloisDesk.FULL);
        Check.slot("FULL", desk, 1, -300, 300, 300, -300, 300, 300);
        Check.load(desk, 2, 5, 1, 0, 2);
        Check.same("derive(2, 2)", desk.derive(2, 2), 2);
        Check.slot("derive into its own", desk, 2, 1, 0, 6);
        Check.load(desk, 3, -9);
        Check.same("derive(4, 3)", desk.derive(4, 3), GaloisDesk.NONE);
        Check.same("derive(2, 7)", desk.derive(2, 7), GaloisDesk.NONE);
        Check.slot("derive of 0", desk, 2);
        Check.load(desk, 4, 0, 0, 151);
        Check.same("derive(5, 4)", desk.derive(5, 4), GaloisDesk.FULL);
    }

    private static void wrongNumbers() {
        GaloisDesk desk = Check.deskWith(1, 1);
        int[] noSlots = {-1, 8, Integer.MIN_VALUE, Integer.MAX_VALUE};
        for (int slot : noSlots) {
            Check.refused("add to " + slot, () -> desk.add(slot, 0, 0, 1, 1));
            Check.refused("add of a " + slot, () -> desk.add(0, slot, 0, 1, 1));
            Check.refused("add of b " + slot, () -> desk.add(0, 0, slot, 1, 1));
            Check.refused("multiply to " + slot, () -> desk.multiply(slot, 0, 0));
            Check.refused("multiply of a " + slot, () -> desk.multiply(0, slot, 0));
            Check.refused("multiply of b " + slot, () -> desk.multiply(0, 0, slot));
            Check.refused("derive to " + slot, () -> desk.derive(slot, 0));
            Check.refused("derive of " + slot, () -> desk.derive(0, slot));
        }
        int[] noMultipliers = {-11, 11, Integer.MIN_VALUE, Integer.MAX_VALUE};
        for (int number : noMultipliers) {
            Check.refused("add with p " + number, () -> desk.add(0, 0, 0, number, 0));
            Check.refused("add with q " + number, () -> desk.add(0, 0, 0, 0, number));
        }
        Check.slot("what throws changes nothing", desk, 0, 1, 1);
    }
}
