/** What the tests of boundary cases share: numbers that are none of those told, and desks on which any change shows. */
final class Edge {
    interface Ask {
        long of(GaloisDesk desk);
    }

    /** The next ones to 0 .. 7, two that narrower numbers would take for 0, and the farthest. */
    static final int[] NO_SLOTS = {-1, 8, 256, 65536, Integer.MIN_VALUE, Integer.MAX_VALUE};
    static final int[] NO_PLACES = {-1, 7, 256, 65536, Integer.MIN_VALUE, Integer.MAX_VALUE};

    private static final int SLOTS = 8;
    private static final int PLACES = 7;
    private static final int MOST = 6;

    private Edge() {
    }

    /** Slot 6 is 0, slot 4 a number, the others are not; parts and a pattern, those of slot 0, are told. */
    static GaloisDesk furnished() {
        GaloisDesk desk = new GaloisDesk();
        desk.set(0, 6, 2);
        desk.set(0, 0, -2);
        desk.set(1, 1, 1);
        desk.set(1, 0, 1);
        desk.set(2, 6, 300);
        desk.set(3, 5, -300);
        desk.set(3, 4, 7);
        desk.set(4, 0, 5);
        desk.set(5, 3, 1);
        desk.set(5, 1, -3);
        desk.set(5, 0, 1);
        desk.set(7, 2, -9);
        desk.set(7, 1, 8);
        desk.parts(0);
        desk.pattern(0, 5);
        return desk;
    }

    /** On a furnished desk the call throws, and changes nothing. */
    static void refused(String call, Ask ask) {
        GaloisDesk desk = furnished();
        long[] before = stateOf(desk);
        Check.refused(call, () -> ask.of(desk));
        sameState("after the refused " + call, desk, before);
    }

    /** The call answers what is due, and changes nothing. */
    static void leavesAll(String call, GaloisDesk desk, Ask ask, long due) {
        long[] before = stateOf(desk);
        Check.same(call, ask.of(desk), due);
        sameState(call, desk, before);
    }

    /** The call answers what is due, and one slot has these coefficients then; nothing else changes. */
    static void changesSlot(String call, GaloisDesk desk, Ask ask, long due, int slot, int... coefficients) {
        long[] state = stateOf(desk);
        Check.same(call, ask.of(desk), due);
        for (int k = 0; k < PLACES; k++) {
            state[slot * PLACES + k] = k < coefficients.length ? coefficients[k] : 0;
        }
        sameState(call, desk, state);
    }

    /** The coefficients of all slots, then the parts told, how often each, their content, and the pattern told. */
    private static long[] stateOf(GaloisDesk desk) {
        long[] state = new long[SLOTS * PLACES + MOST * PLACES + 2 * MOST + 1];
        int n = 0;
        for (int slot = 0; slot < SLOTS; slot++) {
            for (int k = 0; k < PLACES; k++) {
                state[n++] = desk.get(slot, k);
            }
        }
        for (int i = 0; i < MOST; i++) {
            for (int k = 0; k < PLACES; k++) {
                state[n++] = desk.part(i, k);
            }
        }
        for (int i = 0; i < MOST; i++) {
            state[n++] = desk.times(i);
            state[n++] = desk.degree(i);
        }
        state[n] = desk.content();
        return state;
    }

    private static void sameState(String what, GaloisDesk desk, long[] due) {
        long[] state = stateOf(desk);
        for (int n = 0; n < state.length; n++) {
            Check.same(what + ", then " + nameOf(n), state[n], due[n]);
        }
    }

    private static String nameOf(int n) {
        int parts = SLOTS * PLACES;
        int counts = parts + MOST * PLACES;
        if (n < parts) {
            return "get(" + n / PLACES + ", " + n % PLACES + ")";
        }
        if (n < counts) {
            return "part(" + (n - parts) / PLACES + ", " + (n - parts) % PLACES + ")";
        }
        if (n < counts + 2 * MOST) {
            return ((n - counts) % 2 == 0 ? "times(" : "degree(") + (n - counts) / 2 + ")";
        }
        return "content()";
    }
}
