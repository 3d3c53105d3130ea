/** Counts the answers that are not as due, and ends a test with exit code 1 if there were any. */
final class Check {
    interface Call {
        void run();
    }

    private static int wrong = 0;
    private static String where = "";

    private Check() {
    }

    /** What follows is about a sentence of the document; each wrong answer is reported with it. */
    static void about(String heading, String sentence) {
        where = heading + ", \"" + sentence + "\": ";
    }

    static void same(String what, long got, long due) {
        if (got != due) {
            report(what + " answered " + got + ", due is " + due);
        }
    }

    static void holds(String what, boolean truth) {
        if (!truth) {
            report(what + " does not hold");
        }
    }

    static void refused(String what, Call call) {
        String thrown = "nothing";
        try {
            call.run();
        } catch (RuntimeException e) {
            thrown = e.getClass().getName();
        }
        if (!thrown.equals("java.lang.IllegalArgumentException")) {
            report(what + " threw " + thrown + ", due is IllegalArgumentException");
        }
    }

    /** Tells a slot all its coefficients, of x to the 0 first. */
    static void load(GaloisDesk desk, int slot, int... coefficients) {
        for (int k = 0; k <= 6; k++) {
            desk.set(slot, k, k < coefficients.length ? coefficients[k] : 0);
        }
    }

    static GaloisDesk deskWith(int... coefficients) {
        GaloisDesk desk = new GaloisDesk();
        load(desk, 0, coefficients);
        return desk;
    }

    static void slot(String what, GaloisDesk desk, int slot, int... coefficients) {
        for (int k = 0; k <= 6; k++) {
            same(what + ", then get(" + slot + ", " + k + ")", desk.get(slot, k),
                    k < coefficients.length ? coefficients[k] : 0);
        }
    }

    static void part(String what, GaloisDesk desk, int i, int often, int... coefficients) {
        same(what + ", then times(" + i + ")", desk.times(i), often);
        for (int k = 0; k <= 6; k++) {
            same(what + ", then part(" + i + ", " + k + ")", desk.part(i, k),
                    k < coefficients.length ? coefficients[k] : 0);
        }
    }

    static void noPartsFrom(String what, GaloisDesk desk, int first) {
        for (int i = first; i <= 7; i++) {
            part(what, desk, i, 0);
        }
    }

    static void degrees(String what, GaloisDesk desk, int... due) {
        for (int i = 0; i <= 7; i++) {
            same(what + ", then degree(" + i + ")", desk.degree(i), i < due.length ? due[i] : 0);
        }
    }

    private static void report(String text) {
        wrong++;
        System.out.println(where + text);
    }

    static void end() {
        if (wrong != 0) {
            System.out.println(wrong + " answers are not as due");
            System.exit(1);
        }
    }
}
