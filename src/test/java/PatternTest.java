/** Promises 13 and 14: pattern and degree. */
public final class PatternTest {
    public static void main(String[] args) {
        ordinary();
        modulusTwo();
        none();
        zero();
        primes();
        wrongNumbers();
        Check.end();
    }

    private static void expect(GaloisDesk desk, int prime, int... degrees) {
        Check.same("pattern(0, " + prime + ")", desk.pattern(0, prime), degrees.length);
        Check.degrees("pattern(0, " + prime + ")", desk, degrees);
    }

    private static void ordinary() {
        GaloisDesk desk = Check.deskWith(1, 0, 0, 0, 1);
        expect(desk, 17, 1, 1, 1, 1);
        expect(desk, 3, 2, 2);
        expect(desk, 997, 2, 2);
        Check.slot("pattern", desk, 0, 1, 0, 0, 0, 1);
        Check.load(desk, 0, -1, 0, 0, 0, 0, 0, 1);
        expect(desk, 7, 1, 1, 1, 1, 1, 1);
        expect(desk, 5, 1, 1, 2, 2);
        Check.load(desk, 0, -4, 0, 0, 2);
        expect(desk, 7, 3);
        expect(desk, 5, 1, 2);
        expect(desk, 31, 1, 1, 1);
        Check.load(desk, 0, -6, 0, 0, 1, 0, 0, 1);
        expect(desk, 7, 3, 3);
        Check.load(desk, 0, -3, 5);
        expect(desk, 2, 1);
    }

    private static void modulusTwo() {
        GaloisDesk desk = Check.deskWith(0, 1, 0, 0, 0, 1, 1);
        expect(desk, 2, 1, 2, 3);
        Check.load(desk, 0, 1, 1, 0, 0, 0, 0, 1);
        expect(desk, 2, 6);
        Check.load(desk, 0, 1, 0, 1, 0, 0, 1);
        expect(desk, 2, 5);
        Check.load(desk, 0, 300, -299, 1);
        expect(desk, 2, 1, 1);
    }

    private static void none() {
        GaloisDesk desk = Check.deskWith(1, 0, 0, 0, 1);
        expect(desk, 17, 1, 1, 1, 1);
        Check.same("twice modulo 2", desk.pattern(0, 2), GaloisDesk.NONE);
        Check.degrees("none is told any more", desk);
        Check.load(desk, 0, 1, 2, 7);
        expect(desk, 5, 1, 1);
        Check.same("7 divides the lead", desk.pattern(0, 7), GaloisDesk.NONE);
        Check.degrees("none is told any more", desk);
        Check.load(desk, 0, 1, 2, 1);
        Check.same("twice with whole coefficients", desk.pattern(0, 101), GaloisDesk.NONE);
        Check.load(desk, 0, -1, 0, 0, 1);
        Check.same("the derivative is 0 modulo 3", desk.pattern(0, 3), GaloisDesk.NONE);
        Check.load(desk, 0, 5, 10);
        Check.same("5 divides all", desk.pattern(0, 5), GaloisDesk.NONE);
    }

    private static void zero() {
        GaloisDesk desk = Check.deskWith(-2, 0, 1);
        Check.load(desk, 1, 5);
        expect(desk, 7, 1, 1);
        Check.same("of a number", desk.pattern(1, 7), GaloisDesk.ZERO);
        Check.degrees("none is told any more", desk);
        Check.same("of a number that the prime divides", desk.pattern(1, 5), GaloisDesk.ZERO);
        expect(desk, 7, 1, 1);
        Check.same("of 0", desk.pattern(2, 7), GaloisDesk.ZERO);
        Check.degrees("none is told any more", desk);
    }

    private static void primes() {
        int count = 0;
        for (int n = -10; n <= 1100; n++) {
            GaloisDesk desk = Check.deskWith(1, 1);
            int number = n;
            if (isPrime(n) && n <= 997) {
                count++;
                Check.same("pattern(0, " + n + ")", desk.pattern(0, n), 1);
            } else {
                Check.refused("pattern(0, " + n + ")", () -> desk.pattern(0, number));
            }
        }
        Check.same("primes up to 997", count, 168);
        GaloisDesk desk = Check.deskWith(1, 1);
        Check.refused("the least number", () -> desk.pattern(0, Integer.MIN_VALUE));
        Check.refused("the greatest number", () -> desk.pattern(0, Integer.MAX_VALUE));
    }

    private static boolean isPrime(int n) {
        return java.math.BigInteger.valueOf(Math.max(n, 0)).isProbablePrime(50);
    }

    private static void wrongNumbers() {
        GaloisDesk desk = Check.deskWith(-2, 0, 1);
        expect(desk, 7, 1, 1);
        int[] noSlots = {-1, 8, Integer.MIN_VALUE, Integer.MAX_VALUE};
        for (int slot : noSlots) {
            Check.refused("pattern(" + slot + ", 7)", () -> desk.pattern(slot, 7));
        }
        Check.refused("pattern(0, 9)", () -> desk.pattern(0, 9));
        Check.refused("of 0, no prime", () -> desk.pattern(1, 1));
        Check.degrees("what throws changes nothing", desk, 1, 1);
        int[] none = {-1, 2, 6, 7, Integer.MIN_VALUE, Integer.MAX_VALUE};
        for (int i : none) {
            Check.same("degree(" + i + ")", desk.degree(i), 0);
        }
        desk.set(0, 0, 5);
        desk.parts(0);
        desk.galois(0);
        desk.common(1, 0, 0);
        Check.degrees("other calls leave the pattern", desk, 1, 1);
    }
}
