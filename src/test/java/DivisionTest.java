/** Promises 7 and 8: divide and common. */
public final class DivisionTest {
    public static void main(String[] args) {
        quotients();
        noQuotients();
        fullQuotient();
        commonOnes();
        commonModuloPrimesOnly();
        commonWithZero();
        fullCommon();
        wrongNumbers();
        Check.end();
    }

    private static void quotients() {
        GaloisDesk desk = Check.deskWith(-1, 0, 0, 0, 0, 0, 1);
        Check.load(desk, 1, 1, -1, 1);
        Check.same("divide(2, 0, 1)", desk.divide(2, 0, 1), 4);
        Check.slot("divide", desk, 2, -1, -1, 0, 1, 1);
        Check.same("divide(0, 0, 0)", desk.divide(0, 0, 0), 0);
        Check.slot("divide by itself", desk, 0, 1);
        Check.load(desk, 3, 6, -12);
        Check.load(desk, 4, -3);
        Check.same("divide(3, 3, 4)", desk.divide(3, 3, 4), 1);
        Check.slot("divide by a number", desk, 3, -2, 4);
        Check.same("divide(4, 7, 1)", desk.divide(4, 7, 1), GaloisDesk.NONE);
        Check.slot("0 divided", desk, 4);
    }

    private static void noQuotients() {
        GaloisDesk desk = Check.deskWith(1, 0, 1);
        Check.load(desk, 1, 1, 1);
        Check.load(desk, 2, 2, 2);
        Check.load(desk, 3, 8, 9);
        Check.load(desk, 4, 3, 5, 2);
        Check.same("a rest is left", desk.divide(3, 0, 1), GaloisDesk.NONE);
        Check.same("only halves would do", desk.divide(3, 1, 2), GaloisDesk.NONE);
        Check.same("the divisor is higher", desk.divide(3, 1, 0), GaloisDesk.NONE);
        Check.same("whole at first only", desk.divide(3, 4, 2), GaloisDesk.NONE);
        Check.same("divide by 0", desk.divide(3, 0, 7), GaloisDesk.ZERO);
        Check.same("divide 0 by 0", desk.divide(3, 6, 7), GaloisDesk.ZERO);
        Check.slot("nothing changes", desk, 3, 8, 9);
        Check.load(desk, 5, 300, -300, 300, -300, 300, -300, 300);
        Check.load(desk, 6, 299, 300);
        Check.same("far from whole", desk.divide(3, 5, 6), GaloisDesk.NONE);
        Check.load(desk, 6, 299, 1);
        Check.same("far too large", desk.divide(3, 5, 6), GaloisDesk.NONE);
    }

    private static void fullQuotient() {
        GaloisDesk desk = Check.deskWith(-201, -149, 150, 200);
        Check.load(desk, 1, -1, 1);
        Check.load(desk, 2, 4, 4);
        Check.same("divide(2, 0, 1)", desk.divide(2, 0, 1), GaloisDesk.FULL);
        Check.slot("FULL", desk, 2, 4, 4);
    }

    private static void commonOnes() {
        GaloisDesk desk = Check.deskWith(-1, 0, 1);
        Check.load(desk, 1, 1, 2, 1);
        Check.same("common(2, 0, 1)", desk.common(2, 0, 1), 1);
        Check.slot("common", desk, 2, 1, 1);
        Check.load(desk, 3, -6, 0, 6);
        Check.load(desk, 4, 4, -8, 4);
        Check.same("common(4, 3, 4)", desk.common(4, 3, 4), 1);
        Check.slot("common is primitive", desk, 4, -1, 1);
        Check.load(desk, 5, 2, -4);
        Check.same("common(5, 5, 5)", desk.common(5, 5, 5), 1);
        Check.slot("common has a lead above 0", desk, 5, -1, 2);
        Check.load(desk, 6, 2, 0, 2);
        Check.same("common(6, 6, 5)", desk.common(6, 6, 5), 0);
        Check.slot("common of strangers", desk, 6, 1);
        Check.load(desk, 6, -12);
        Check.same("common(6, 6, 6)", desk.common(6, 6, 6), 0);
        Check.slot("common of numbers", desk, 6, 1);
        Check.load(desk, 0, 1, 2, -1, -4, -1, 2, 1);
        Check.load(desk, 1, 1, 3, 2, -2, -3, -1);
        Check.same("common(2, 0, 1)", desk.common(2, 0, 1), 5);
        Check.slot("common with repeated factors", desk, 2, -1, -3, -2, 2, 3, 1);
    }

    /** They share a root modulo 33554467 and modulo 33554473, where the class looks first, but no factor. */
    private static void commonModuloPrimesOnly() {
        GaloisDesk desk = Check.deskWith(-14, -9, -113, 48, 23, 20, 10);
        Check.load(desk, 1, 3, -102, 5, -80, -90, -1, -29);
        Check.same("common(2, 0, 1)", desk.common(2, 0, 1), 0);
        Check.slot("common modulo primes only", desk, 2, 1);
    }

    private static void commonWithZero() {
        GaloisDesk desk = Check.deskWith(6, 0, -4);
        Check.same("common(1, 7, 0)", desk.common(1, 7, 0), 2);
        Check.slot("common of 0 and b", desk, 1, -3, 0, 2);
        Check.same("common(2, 0, 7)", desk.common(2, 0, 7), 2);
        Check.slot("common of a and 0", desk, 2, -3, 0, 2);
        Check.load(desk, 3, -5);
        Check.same("common(3, 3, 7)", desk.common(3, 3, 7), 0);
        Check.slot("common of a number and 0", desk, 3, 1);
        Check.same("common(2, 6, 7)", desk.common(2, 6, 7), GaloisDesk.NONE);
        Check.slot("common of 0 and 0", desk, 2);
    }

    private static void fullCommon() {
        GaloisDesk desk = Check.deskWith(-201, -149, 150, 200);
        Check.load(desk, 1, 201, 149, 51, 150, 200);
        Check.load(desk, 2, 4, 4);
        Check.same("common(2, 0, 1)", desk.common(2, 0, 1), GaloisDesk.FULL);
        Check.slot("FULL", desk, 2, 4, 4);
    }

    private static void wrongNumbers() {
        GaloisDesk desk = Check.deskWith(1, 1);
        int[] noSlots = {-1, 8, Integer.MIN_VALUE, Integer.MAX_VALUE};
        for (int slot : noSlots) {
            Check.refused("divide to " + slot, () -> desk.divide(slot, 0, 0));
            Check.refused("divide of " + slot, () -> desk.divide(0, slot, 0));
            Check.refused("divide by " + slot, () -> desk.divide(0, 0, slot));
            Check.refused("common to " + slot, () -> desk.common(slot, 0, 0));
            Check.refused("common of a " + slot, () -> desk.common(0, slot, 0));
            Check.refused("common of b " + slot, () -> desk.common(0, 0, slot));
            Check.refused("divide 0 by 0 to " + slot, () -> desk.divide(slot, 7, 7));
        }
        Check.slot("what throws changes nothing", desk, 0, 1, 1);
    }
}
