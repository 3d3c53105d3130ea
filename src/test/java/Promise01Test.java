/** Promise 1, a new object: a test for each sentence that names a boundary case. */
public final class Promise01Test {
    public static void main(String[] args) {
        everySlotIsZero();
        otherCallsFindZero();
        noPartsTold();
        noPatternTold();
        newAfterOthers();
        Check.end();
    }

    private static void everySlotIsZero() {
        Check.about("promise 1", "POLYNOMIALS of 0");
        GaloisDesk desk = new GaloisDesk();
        for (int slot = 0; slot <= 7; slot++) {
            Check.slot("new", desk, slot);
        }
    }

    private static void otherCallsFindZero() {
        Check.about("promise 1", "POLYNOMIALS of 0");
        for (int slot = 0; slot <= 7; slot++) {
            GaloisDesk desk = new GaloisDesk();
            Check.same("parts(" + slot + ")", desk.parts(slot), GaloisDesk.ZERO);
            Check.same("pattern(" + slot + ", 2)", desk.pattern(slot, 2), GaloisDesk.ZERO);
            Check.same("galois(" + slot + ")", desk.galois(slot), 0);
            Check.same("divide by slot " + slot, desk.divide(0, 0, slot), GaloisDesk.ZERO);
            Check.same("derive of slot " + slot, desk.derive(0, slot), GaloisDesk.NONE);
            Check.same("add of slot " + slot, desk.add(0, slot, slot, 10, 10), GaloisDesk.NONE);
            Check.same("multiply of slot " + slot, desk.multiply(0, slot, slot), GaloisDesk.NONE);
            Check.same("common of slot " + slot, desk.common(0, slot, slot), GaloisDesk.NONE);
            Check.same("set(" + slot + ", 6, 0)", desk.set(slot, 6, 0), GaloisDesk.NONE);
        }
    }

    private static void noPartsTold() {
        Check.about("promise 1", "no PARTS, no PATTERN told");
        GaloisDesk desk = new GaloisDesk();
        Check.noPartsFrom("new", desk, 0);
        Check.same("content()", desk.content(), 0);
    }

    private static void noPatternTold() {
        Check.about("promise 1", "no PARTS, no PATTERN told");
        Check.degrees("new", new GaloisDesk());
    }

    private static void newAfterOthers() {
        Check.about("promise 1", "POLYNOMIALS of 0; no PARTS, no PATTERN told.");
        GaloisDesk first = Edge.furnished();
        GaloisDesk second = new GaloisDesk();
        for (int slot = 0; slot <= 7; slot++) {
            Check.slot("new after another one", second, slot);
        }
        Check.noPartsFrom("new after another one", second, 0);
        Check.same("new after another one: content()", second.content(), 0);
        Check.degrees("new after another one", second);
        Check.slot("the other one stays", first, 0, -2, 0, 0, 0, 0, 0, 2);
        Check.same("the other one stays: content()", first.content(), 2);
        Check.degrees("the other one stays", first, 1, 1, 2, 2);
    }
}
