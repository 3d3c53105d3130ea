/** Promises 9 to 12: parts, part, times and content. */
public final class PartsTest {
    public static void main(String[] args) {
        ordinary();
        repeated();
        order();
        numbers();
        largeCoefficients();
        hiddenFactors();
        factorsThatMeet();
        whatWasToldStays();
        outOfRange();
        wrongNumbers();
        Check.end();
    }

    private static void expectCount(String what, GaloisDesk desk, int count, int content) {
        Check.same(what + ": parts(0)", desk.parts(0), count);
        Check.same(what + ": content()", desk.content(), content);
        Check.noPartsFrom(what, desk, count);
    }

    private static void ordinary() {
        GaloisDesk desk = Check.deskWith(-1, 0, 0, 0, 0, 0, 1);
        expectCount("x^6 - 1", desk, 4, 1);
        Check.part("x^6 - 1", desk, 0, 1, -1, 1);
        Check.part("x^6 - 1", desk, 1, 1, 1, 1);
        Check.part("x^6 - 1", desk, 2, 1, 1, -1, 1);
        Check.part("x^6 - 1", desk, 3, 1, 1, 1, 1);
        Check.slot("parts", desk, 0, -1, 0, 0, 0, 0, 0, 1);
        Check.load(desk, 0, -6, 0, 0, 1, 0, 0, 1);
        expectCount("(x^3 - 2)(x^3 + 3)", desk, 2, 1);
        Check.part("(x^3 - 2)(x^3 + 3)", desk, 0, 1, -2, 0, 0, 1);
        Check.part("(x^3 - 2)(x^3 + 3)", desk, 1, 1, 3, 0, 0, 1);
    }

    private static void repeated() {
        GaloisDesk desk = Check.deskWith(0, 0, 0, 0, 0, 0, -300);
        expectCount("-300 x^6", desk, 1, -300);
        Check.part("-300 x^6", desk, 0, 6, 0, 1);
        Check.load(desk, 0, 2, 4, 6, 4, 2);
        expectCount("2 (x^2 + x + 1)^2", desk, 1, 2);
        Check.part("2 (x^2 + x + 1)^2", desk, 0, 2, 1, 1, 1);
        Check.load(desk, 0, 4, 0, 0, 4, 0, 0, 1);
        expectCount("(x^3 + 2)^2", desk, 1, 1);
        Check.part("(x^3 + 2)^2", desk, 0, 2, 2, 0, 0, 1);
        Check.load(desk, 0, 0, -1, 1, 2, -2, -1, 1);
        expectCount("x (x - 1)^3 (x + 1)^2", desk, 3, 1);
        Check.part("x (x - 1)^3 (x + 1)^2", desk, 0, 3, -1, 1);
        Check.part("x (x - 1)^3 (x + 1)^2", desk, 1, 1, 0, 1);
        Check.part("x (x - 1)^3 (x + 1)^2", desk, 2, 2, 1, 1);
    }

    private static void order() {
        GaloisDesk desk = Check.deskWith(-1, 1);
        Check.load(desk, 1, 7, 2);
        Check.load(desk, 2, -9, 2);
        Check.load(desk, 3, 1, 0, 1);
        desk.multiply(0, 0, 1);
        desk.multiply(0, 0, 2);
        desk.multiply(0, 0, 3);
        expectCount("the lead first, then what follows", desk, 4, 1);
        Check.part("order", desk, 0, 1, -1, 1);
        Check.part("order", desk, 1, 1, -9, 2);
        Check.part("order", desk, 2, 1, 7, 2);
        Check.part("order", desk, 3, 1, 1, 0, 1);
        Check.load(desk, 0, 10, 0, 7, 0, 1);
        expectCount("(x^2 + 2)(x^2 + 5)", desk, 2, 1);
        Check.part("(x^2 + 2)(x^2 + 5)", desk, 0, 1, 2, 0, 1);
        Check.load(desk, 0, 4, 0, 0, 0, 1);
        expectCount("x^4 + 4", desk, 2, 1);
        Check.part("x^4 + 4", desk, 0, 1, 2, -2, 1);
        Check.part("x^4 + 4", desk, 1, 1, 2, 2, 1);
    }

    private static void numbers() {
        GaloisDesk desk = Check.deskWith(36);
        expectCount("36", desk, 0, 36);
        Check.load(desk, 0, -300);
        expectCount("-300", desk, 0, -300);
        Check.load(desk, 0, 1);
        expectCount("1", desk, 0, 1);
        Check.load(desk, 0, 12, 0, -18);
        expectCount("-6 (3 x^2 - 2)", desk, 1, -6);
        Check.part("-6 (3 x^2 - 2)", desk, 0, 1, -2, 0, 3);
    }

    private static void largeCoefficients() {
        GaloisDesk desk = Check.deskWith(-201, -149, 150, 200);
        expectCount("(x - 1)(200 x^2 + 350 x + 201)", desk, 2, 1);
        Check.part("a part beyond the slots' bounds", desk, 0, 1, -1, 1);
        Check.part("a part beyond the slots' bounds", desk, 1, 1, 201, 350, 200);
        Check.load(desk, 0, 299, -47, -103, -298, -103, -47, 299);
        expectCount("(x - 1)^2 and a large one", desk, 2, 1);
        Check.part("(x - 1)^2 and a large one", desk, 0, 2, -1, 1);
        Check.part("(x - 1)^2 and a large one", desk, 1, 1, 299, 551, 700, 551, 299);
    }

    /** Irreducible ones that come apart modulo every prime. */
    private static void hiddenFactors() {
        GaloisDesk desk = Check.deskWith(1, 0, -10, 0, 1);
        expectCount("x^4 - 10 x^2 + 1", desk, 1, 1);
        Check.part("x^4 - 10 x^2 + 1", desk, 0, 1, 1, 0, -10, 0, 1);
        Check.load(desk, 0, 108, 0, 0, 0, 0, 0, 1);
        expectCount("x^6 + 108", desk, 1, 1);
        Check.part("x^6 + 108", desk, 0, 1, 108, 0, 0, 0, 0, 0, 1);
    }

    /** Factors, or roots of one, that are the same modulo 33554467 or 33554473, where the class looks for them. */
    private static void factorsThatMeet() {
        GaloisDesk desk = Check.deskWith(-140, -53, -117, 126, -206, -190, 10);
        expectCount("meeting modulo 33554467", desk, 2, 1);
        Check.part("meeting modulo 33554467", desk, 0, 1, -20, 1);
        Check.part("meeting modulo 33554467", desk, 1, 1, 7, 3, 6, -6, 10, 10);
        Check.load(desk, 0, 140, -87, -116, 126, -206, -190, 10);
        expectCount("meeting modulo 33554473", desk, 2, 1);
        Check.part("meeting modulo 33554473", desk, 0, 1, -20, 1);
        Check.part("meeting modulo 33554473", desk, 1, 1, -7, 4, 6, -6, 10, 10);
        Check.load(desk, 0, 5, 57, -29, 66, -35, -47, -31);
        expectCount("a double root modulo 33554467", desk, 1, -1);
        Check.part("a double root modulo 33554467", desk, 0, 1, -5, -57, 29, -66, 35, 47, 31);
    }

    private static void whatWasToldStays() {
        GaloisDesk desk = Check.deskWith(-2, 0, 2);
        expectCount("2 x^2 - 2", desk, 2, 2);
        Check.same("parts of 0", desk.parts(7), GaloisDesk.ZERO);
        Check.load(desk, 0, 0, 0, 0, 1);
        Check.load(desk, 1, 5, 1, 0, 1);
        desk.galois(0);
        desk.common(2, 0, 1);
        desk.divide(3, 0, 0);
        desk.pattern(0, 5);
        Check.same("content() stays", desk.content(), 2);
        Check.part("what was told stays", desk, 0, 1, -1, 1);
        Check.part("what was told stays", desk, 1, 1, 1, 1);
        Check.noPartsFrom("what was told stays", desk, 2);
        expectCount("x^3 after it", desk, 1, 1);
        Check.part("x^3 after it", desk, 0, 3, 0, 1);
    }

    private static void outOfRange() {
        GaloisDesk desk = Check.deskWith(1, 1);
        desk.parts(0);
        int[] none = {-1, 1, 6, 7, Integer.MIN_VALUE, Integer.MAX_VALUE};
        for (int i : none) {
            Check.same("part(" + i + ", 0)", desk.part(i, 0), 0);
            Check.same("times(" + i + ")", desk.times(i), 0);
        }
        int[] noPlaces = {-1, 2, 6, 7, 12, 13, 100, Integer.MIN_VALUE, Integer.MAX_VALUE};
        for (int k : noPlaces) {
            Check.same("part(0, " + k + ")", desk.part(0, k), 0);
        }
    }

    private static void wrongNumbers() {
        GaloisDesk desk = Check.deskWith(3, 3);
        desk.parts(0);
        int[] noSlots = {-1, 8, Integer.MIN_VALUE, Integer.MAX_VALUE};
        for (int slot : noSlots) {
            Check.refused("parts(" + slot + ")", () -> desk.parts(slot));
        }
        Check.same("what throws changes nothing: content()", desk.content(), 3);
        Check.part("what throws changes nothing", desk, 0, 1, 1, 1);
    }
}
