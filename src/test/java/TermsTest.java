/** The sentences of the document that stand before the promises and name a boundary case for several calls. */
public final class TermsTest {
    public static void main(String[] args) {
        lastCallOfAnObject();
        answersThatAreNoDegrees();
        everySlotIsTaken();
        degreeOfZero();
        degreesUpToSix();
        fullChangesNothing();
        refusedOnANewObject();
        refusedOneAfterAnother();
        Check.end();
    }

    /** Eight calls, 64 times. */
    private static void lastCallOfAnObject() {
        Check.about("What it is", "An object is used for at most 512 calls after it has been made");
        GaloisDesk desk = new GaloisDesk();
        for (int n = 1; n <= 64; n++) {
            String when = " in round " + n + " of 64";
            Check.same("set(0, 2, 1)" + when, desk.set(0, 2, 1), 2);
            Check.same("set(0, 0, -n)" + when, desk.set(0, 0, -n), 2);
            boolean square = n == 1 || n == 4 || n == 9 || n == 16 || n == 25 || n == 36 || n == 49 || n == 64;
            Check.same("parts(0)" + when, desk.parts(0), square ? 2 : 1);
            Check.same("galois(0)" + when, desk.galois(0), square ? 0 : 2);
            Check.same("multiply(1, 0, 0)" + when, desk.multiply(1, 0, 0), n <= 17 ? 4 : GaloisDesk.FULL);
            Check.same("common(2, 0, 1)" + when, desk.common(2, 0, 1), n <= 17 ? 2 : 0);
            Check.same("pattern(0, 997)" + when, desk.pattern(0, 997), partsModulo997(n));
            Check.same("part(0, 0)" + when, desk.part(0, 0), square ? -(long) Math.sqrt(n) : -n);
        }
    }

    /** How many parts x^2 - n has modulo 997: two if some square is n there. */
    private static int partsModulo997(int n) {
        for (int x = 1; x < 997; x++) {
            if (x * x % 997 == n) {
                return 2;
            }
        }
        return 1;
    }

    private static void answersThatAreNoDegrees() {
        Check.about("The public face", "public static final int NONE = -1;");
        Check.same("NONE", GaloisDesk.NONE, -1);
        Check.about("The public face", "public static final int FULL = -2;");
        Check.same("FULL", GaloisDesk.FULL, -2);
        Check.about("The public face", "public static final int ZERO = -3;");
        Check.same("ZERO", GaloisDesk.ZERO, -3);
    }

    private static void everySlotIsTaken() {
        Check.about("Terms", "SLOTS 0 .. 7 have a POLYNOMIAL each (0 at first)");
        for (int slot = 0; slot <= 7; slot++) {
            GaloisDesk desk = new GaloisDesk();
            int other = 7 - slot;
            Check.same("set in " + slot, desk.set(slot, 1, 3), 1);
            Check.same("get of " + slot, desk.get(slot, 1), 3);
            Check.same("add of " + slot, desk.add(other, slot, slot, 1, 1), 1);
            Check.same("multiply of " + slot, desk.multiply(other, slot, slot), 2);
            Check.same("divide by " + slot, desk.divide(other, other, slot), 1);
            Check.same("common of " + slot, desk.common(other, slot, other), 1);
            Check.same("derive of " + slot, desk.derive(other, slot), 0);
            Check.same("parts of " + slot, desk.parts(slot), 1);
            Check.same("pattern of " + slot, desk.pattern(slot, 2), 1);
            Check.same("galois of " + slot, desk.galois(slot), 1);
            for (int each = 0; each <= 7; each++) {
                int[] due = each == slot ? new int[] {0, 3} : each == other ? new int[] {3} : new int[0];
                Check.slot("calls about " + slot, desk, each, due);
            }
        }
    }

    private static void degreeOfZero() {
        Check.about("Terms", "Its DEGREE is that of the highest one that is not 0 (NONE for 0), its LEAD that one.");
        GaloisDesk desk = Edge.furnished();
        Check.same("set to 0", desk.set(4, 0, 0), GaloisDesk.NONE);
        Check.same("a sum of 0", desk.add(4, 1, 1, 1, -1), GaloisDesk.NONE);
        Check.same("a product of 0", desk.multiply(4, 1, 6), GaloisDesk.NONE);
        Check.same("a derivative of 0", desk.derive(4, 6), GaloisDesk.NONE);
        Check.same("a quotient of 0", desk.divide(4, 6, 1), GaloisDesk.NONE);
        Check.same("common of 0 and 0", desk.common(4, 6, 6), GaloisDesk.NONE);
    }

    private static void degreesUpToSix() {
        Check.about("Terms", "Its DEGREE is that of the highest one that is not 0 (NONE for 0), its LEAD that one.");
        for (int k = 0; k <= 6; k++) {
            GaloisDesk desk = new GaloisDesk();
            desk.set(0, k, 2);
            desk.set(1, 0, 1);
            Check.same("a sum of degree " + k, desk.add(2, 0, 1, 1, 0), k);
            Check.same("a product of degree " + k, desk.multiply(2, 0, 1), k);
            Check.same("a quotient of degree " + k, desk.divide(2, 0, 1), k);
            Check.same("common of degree " + k, desk.common(2, 0, 0), k);
        }
    }

    private static void fullChangesNothing() {
        Check.about("Terms", "FULL: what would come has a DEGREE above 6, or a COEFFICIENT out of these bounds;"
                + " then nothing changes.");
        for (int to = 0; to <= 7; to++) {
            int slot = to;
            Edge.leavesAll("add to " + to, Edge.furnished(), d -> d.add(slot, 2, 3, 2, 2), GaloisDesk.FULL);
            Edge.leavesAll("multiply to " + to, Edge.furnished(), d -> d.multiply(slot, 2, 1), GaloisDesk.FULL);
            Edge.leavesAll("derive to " + to, Edge.furnished(), d -> d.derive(slot, 2), GaloisDesk.FULL);
        }
    }

    private static void refusedOnANewObject() {
        Check.about("Terms", "What throws changes nothing.");
        GaloisDesk desk = new GaloisDesk();
        Check.refused("set(0, 0, 301)", () -> desk.set(0, 0, 301));
        Check.refused("add(0, 0, 0, 11, 0)", () -> desk.add(0, 0, 0, 11, 0));
        Check.refused("parts(8)", () -> desk.parts(8));
        Check.refused("pattern(0, 1)", () -> desk.pattern(0, 1));
        Check.refused("galois(-1)", () -> desk.galois(-1));
        for (int slot = 0; slot <= 7; slot++) {
            Check.slot("after refused calls", desk, slot);
        }
        Check.noPartsFrom("after refused calls", desk, 0);
        Check.same("after refused calls: content()", desk.content(), 0);
        Check.degrees("after refused calls", desk);
    }

    private static void refusedOneAfterAnother() {
        Check.about("Terms", "What throws changes nothing.");
        GaloisDesk desk = Edge.furnished();
        Edge.leavesAll("all refused calls", desk, d -> {
            for (int wrong : Edge.NO_SLOTS) {
                Check.refused("set", () -> d.set(wrong, 0, 1));
                Check.refused("get", () -> d.get(wrong, 0));
                Check.refused("add", () -> d.add(0, 1, wrong, 1, 1));
                Check.refused("multiply", () -> d.multiply(0, 1, wrong));
                Check.refused("derive", () -> d.derive(0, wrong));
                Check.refused("divide", () -> d.divide(0, 1, wrong));
                Check.refused("common", () -> d.common(0, 1, wrong));
                Check.refused("parts", () -> d.parts(wrong));
                Check.refused("pattern", () -> d.pattern(wrong, 3));
                Check.refused("galois", () -> d.galois(wrong));
            }
            return 0;
        }, 0);
    }
}
