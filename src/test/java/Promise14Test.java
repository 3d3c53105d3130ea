/** Promise 14, degree: a test for each sentence that names a boundary case. */
public final class Promise14Test {
    private static final int[] FAR = {-2, -1, 6, 7, 8, 256, Integer.MIN_VALUE, Integer.MAX_VALUE};

    public static void main(String[] args) {
        beforeOneIsTold();
        firstAndLast();
        noSuchDegree();
        afterFewer();
        afterNone();
        afterZero();
        afterRefused();
        changesNothing();
        Check.end();
    }

    /** A pattern of six degrees is told. */
    private static GaloisDesk six() {
        GaloisDesk desk = Check.deskWith(-1, 0, 0, 0, 0, 0, 1);
        desk.pattern(0, 7);
        return desk;
    }

    private static void noneTold(String what, GaloisDesk desk) {
        Check.degrees(what, desk);
        for (int i : FAR) {
            Check.same(what + ": degree(" + i + ")", desk.degree(i), 0);
        }
    }

    private static void beforeOneIsTold() {
        Check.about("promise 14", "0 if there is none.");
        GaloisDesk desk = Check.deskWith(-1, 0, 1);
        noneTold("new", desk);
        desk.parts(0);
        desk.galois(0);
        desk.common(1, 0, 0);
        noneTold("after calls that tell no pattern", desk);
    }

    private static void firstAndLast() {
        Check.about("promise 14", "The i-th DEGREE of the PATTERN told, from 0 on");
        Check.degrees("six", six(), 1, 1, 1, 1, 1, 1);
        GaloisDesk desk = Check.deskWith(0, 1, 0, 0, 0, 1, 1);
        desk.pattern(0, 2);
        Check.same("degree(0)", desk.degree(0), 1);
        Check.same("degree(1)", desk.degree(1), 2);
        Check.same("degree(2)", desk.degree(2), 3);
        GaloisDesk single = Check.deskWith(1, 1, 0, 0, 0, 0, 1);
        single.pattern(0, 2);
        Check.same("degree(0) of one of degree 6", single.degree(0), 6);
    }

    private static void noSuchDegree() {
        Check.about("promise 14", "0 if there is none.");
        GaloisDesk desk = six();
        for (int i : FAR) {
            Check.same("degree(" + i + ") of six", desk.degree(i), 0);
        }
        Check.load(desk, 0, 1, 1);
        desk.pattern(0, 2);
        for (int i = 1; i <= 6; i++) {
            Check.same("degree(" + i + ") of one", desk.degree(i), 0);
        }
        Check.same("degree(-1) of one", desk.degree(-1), 0);
    }

    private static void afterFewer() {
        Check.about("promise 14", "The i-th DEGREE of the PATTERN told, from 0 on");
        GaloisDesk desk = six();
        Check.same("pattern(0, 5)", desk.pattern(0, 5), 4);
        Check.degrees("four after six", desk, 1, 1, 2, 2);
        Check.same("pattern(0, 7)", desk.pattern(0, 7), 6);
        Check.degrees("six after four", desk, 1, 1, 1, 1, 1, 1);
    }

    private static void afterNone() {
        Check.about("promise 13", "(with both none is told any more)");
        GaloisDesk divided = six();
        Check.load(divided, 1, 1, 2);
        Check.same("pattern(1, 2)", divided.pattern(1, 2), GaloisDesk.NONE);
        noneTold("the lead is divided", divided);
        GaloisDesk twice = six();
        Check.same("pattern(0, 2)", twice.pattern(0, 2), GaloisDesk.NONE);
        noneTold("one is there twice", twice);
    }

    private static void afterZero() {
        Check.about("promise 13", "(with both none is told any more)");
        GaloisDesk number = six();
        Check.load(number, 1, 1);
        Check.same("pattern(1, 2)", number.pattern(1, 2), GaloisDesk.ZERO);
        noneTold("of a number", number);
        GaloisDesk zero = six();
        Check.same("pattern(7, 2)", zero.pattern(7, 2), GaloisDesk.ZERO);
        noneTold("of 0", zero);
    }

    private static void afterRefused() {
        Check.about("promise 14, Terms", "What throws changes nothing.");
        GaloisDesk desk = six();
        Check.refused("pattern(0, 4)", () -> desk.pattern(0, 4));
        Check.refused("pattern(8, 7)", () -> desk.pattern(8, 7));
        Check.refused("pattern(7, 998)", () -> desk.pattern(7, 998));
        Check.degrees("after refused calls", desk, 1, 1, 1, 1, 1, 1);
    }

    private static void changesNothing() {
        Check.about("promise 14", "The i-th DEGREE of the PATTERN told, from 0 on");
        Edge.leavesAll("degree(3)", Edge.furnished(), d -> d.degree(3), 2);
        Edge.leavesAll("degree(4)", Edge.furnished(), d -> d.degree(4), 0);
    }
}
