/**
 * Promises 8 to 18: each sentence that names a bound, a refusal or an exception, on both sides. What
 * only asks changes nothing, whether it is refused or not; run() alone brings another plane to hand.
 */
final class AskingBoundsTest {
    private static final int BAD = Due.BAD;
    private static final int NONE_E = Due.NONE_E;
    private static final long NONE = Due.NONE;
    private static final int MIN = Integer.MIN_VALUE;
    private static final int MAX = Integer.MAX_VALUE;

    private static final Due DUE = new Due();
    private static final Twins TWINS = new Twins(DUE);

    public static void main(String[] args) {
        promise8AnyStrain();
        promise8NoSuchKind();
        promise9Plane();
        promise9NoneSuch();
        promise10ThereIsNone();
        promise10Bend();
        promise11Solved();
        promise11NoBalance();
        promise11NoMoment();
        promise11PlaneStays();
        promise12Plane();
        promise12FirstBeyond();
        promise12AnotherNumber();
        promise12NoPlane();
        promise13MoreThanSolvedFor();
        promise13Wraps();
        promise13NoneSuch();
        promise14Fibre();
        promise14NoSuchFibre();
        promise14FirstOfAll();
        promise14NoPlane();
        promise14AnotherNumber();
        promise15Bend();
        promise15ThereIsNone();
        promise15NoneSuch();
        promise16FirstBend();
        promise16None();
        promise16NoBalanceBefore();
        promise16NoneSuchStep();
        promise17LeastArea();
        promise17EvenWithForty();
        promise17NothingIsChanged();
        promise17NoneSuch();
        promise17TooLittle();
        promise17FibreAsAtFirst();
        promise18Numbers();
        promise18AnotherNumber();
        fiveHundredTwelveCalls();
        DUE.end("AskingBoundsTest");
    }

    /** A pair with a plane at hand: E is 4, K 7, FORCE 8 for 7, MOMENT 14,000 for 13,999. */
    private static SectionFibres pairSolved() {
        SectionFibres x = Sections.pair(30_000);
        x.run(7, 13_999);
        return x;
    }

    private static SectionFibres wide() {
        return Sections.pair(30_000);
    }

    private static void promise8AnyStrain() {
        DUE.sentence("Promise 8: The stress of a kind's row at a strain");
        int[][] due = {
            {MIN, -1_000}, {-30_001, -1_000}, {-20_001, -1_000}, {-20_000, -1_000}, {-19_980, -999}, {0, 0}, {1, 50},
            {9_999, 499_950}, {10_000, 500_000}, {10_001, 500_000}, {30_001, 500_000}, {MAX, 500_000},
        };
        for (int[] d : due) {
            TWINS.answers("row(1, " + d[0] + ")", Sections::solved, d[1], x -> x.row(1, d[0]));
        }
        TWINS.answers("row(3, 5), a kind without points", Sections::solved, 0, x -> x.row(3, 5));
    }

    private static void promise8NoSuchKind() {
        DUE.sentence("Promise 8: ArrayIndexOutOfBoundsException: no such kind");
        int[] refused = {-1, 4, 5, 32, MIN, MAX};
        for (int kind : refused) {
            TWINS.throwsIndex("row(" + kind + ", 0)", Sections::solved, x -> x.row(kind, 0));
        }
        TWINS.throwsIndex("row(-1, MIN) of a new object", Sections::empty, x -> x.row(-1, MIN));
        TWINS.throwsIndex("row(4, MAX) of full rows", Sections::fullRows, x -> x.row(4, MAX));
        TWINS.answers("row(0, 0)", Sections::solved, 0, x -> x.row(0, 0));
        TWINS.answers("row(3, 30000) of full rows", Sections::fullRows, 7_400, x -> x.row(3, 30_000));
    }

    private static void promise9Plane() {
        DUE.sentence("Promise 9: FORCE (what 0), MOMENT (1) of a plane, E and K from - 20,000 to 20,000");
        long[][] due = {
            {-20_000, 0, 0, -40_000}, {-19_999, 0, 0, -39_998}, {19_999, 0, 0, 39_998}, {20_000, 0, 0, 40_000},
            {0, -20_000, 1, -40_000_000}, {0, -19_999, 1, -39_998_000},
            {0, 19_999, 1, 39_998_000}, {0, 20_000, 1, 40_000_000},
            {20_000, 20_000, 0, 30_000}, {-20_000, -20_000, 0, -30_000}, {20_000, -20_000, 1, -30_000_000},
            {-20_000, 20_000, 1, 30_000_000},
        };
        for (long[] d : due) {
            TWINS.answers("of(" + d[0] + ", " + d[1] + ", " + d[2] + ")", AskingBoundsTest::pairSolved, d[3],
                x -> x.of((int) d[0], (int) d[1], (int) d[2]));
        }
    }

    private static void promise9NoneSuch() {
        DUE.sentence("Promise 9: NONE (- 2^62): none such");
        int[][] refused = {
            {-20_001, 0, 0}, {20_001, 0, 0}, {-20_001, 0, 1}, {20_001, 0, 1}, {0, -20_001, 0}, {0, 20_001, 0},
            {0, -20_001, 1}, {0, 20_001, 1}, {0, 0, -1}, {0, 0, 2}, {MIN, 0, 0}, {MAX, 0, 0}, {0, MIN, 0}, {0, MAX, 0},
            {0, 0, MIN}, {0, 0, MAX},
        };
        for (int[] r : refused) {
            TWINS.answers("of(" + r[0] + ", " + r[1] + ", " + r[2] + ")", Sections::solved, NONE,
                x -> x.of(r[0], r[1], r[2]));
        }
        DUE.is("NONE is - 2^62", NONE, -(1L << 62));
    }

    private static void promise10ThereIsNone() {
        DUE.sentence("Promise 10: NONE_E (- 1,000,000): there is none");
        TWINS.answers("balance(40000, 0)", AskingBoundsTest::pairSolved, 20_000, x -> x.balance(40_000, 0));
        TWINS.answers("balance(40001, 0)", AskingBoundsTest::pairSolved, NONE_E, x -> x.balance(40_001, 0));
        TWINS.answers("balance(30000, 20000)", AskingBoundsTest::pairSolved, 20_000, x -> x.balance(30_000, 20_000));
        TWINS.answers("balance(30001, 20000)", AskingBoundsTest::pairSolved, NONE_E, x -> x.balance(30_001, 20_000));
        TWINS.answers("balance(-40000, 0)", AskingBoundsTest::pairSolved, -20_000, x -> x.balance(-40_000, 0));
        TWINS.answers("balance(-40001, 0)", AskingBoundsTest::pairSolved, -20_000, x -> x.balance(-40_001, 0));
        TWINS.answers("balance(MIN, 0)", AskingBoundsTest::pairSolved, -20_000, x -> x.balance(Long.MIN_VALUE, 0));
        TWINS.answers("balance(MAX, 0)", AskingBoundsTest::pairSolved, NONE_E, x -> x.balance(Long.MAX_VALUE, 0));
        TWINS.answers("balance(2^32, 0)", AskingBoundsTest::pairSolved, NONE_E, x -> x.balance(1L << 32, 0));
        TWINS.answers("balance(1, 0) without fibres", Sections::empty, NONE_E, x -> x.balance(1, 0));
        TWINS.answers("balance(0, 0) without fibres", Sections::empty, -20_000, x -> x.balance(0, 0));
    }

    private static void promise10Bend() {
        DUE.sentence("Promise 10: NONE_E (- 1,000,000): .. K is not - 20,000 .. 20,000");
        int[] refused = {-20_001, 20_001, MIN, MAX};
        for (int k : refused) {
            TWINS.answers("balance(0, " + k + ")", AskingBoundsTest::pairSolved, NONE_E, x -> x.balance(0, k));
            TWINS.answers("balance(MIN, " + k + ")", AskingBoundsTest::pairSolved, NONE_E,
                x -> x.balance(Long.MIN_VALUE, k));
        }
        int[] taken = {-20_000, -19_999, 19_999, 20_000};
        for (int k : taken) {
            TWINS.answers("balance(20, " + k + ")", AskingBoundsTest::pairSolved, 10, x -> x.balance(20, k));
        }
    }

    private static void promise11Solved() {
        DUE.sentence("Promise 11: Solves: 0, and the plane is at hand");
        SectionFibres x = Sections.pair(30_000);
        DUE.is("run(7, 13999)", x.run(7, 13_999), 0);
        DUE.is("told(0)", x.told(0), 4);
        DUE.is("told(1)", x.told(1), 7);
        DUE.is("residual(0)", x.residual(0), 1);
        DUE.is("residual(1)", x.residual(1), 1);
        DUE.is("in(0, 0)", x.in(0, 0), -3);
        DUE.is("run(-6, -4000) in its place", x.run(-6, -4_000), 0);
        DUE.is("told(0)", x.told(0), -3);
        DUE.is("told(1)", x.told(1), -2);
        DUE.is("residual(0)", x.residual(0), 0);
        DUE.is("residual(1)", x.residual(1), 0);
        DUE.is("in(0, 0)", x.in(0, 0), -1);
        DUE.is("the lowest of both", x.run(Long.MIN_VALUE, Long.MIN_VALUE), 0);
        DUE.is("told(0)", x.told(0), -20_000);
        DUE.is("told(1)", x.told(1), -20_000);
    }

    private static void promise11NoBalance() {
        DUE.sentence("Promise 11: 1 there is no balance with some bend");
        SectionFibres x = Sections.pair(30_000);
        DUE.is("the highest force that any bend has", x.run(40_000, 0), 0);
        DUE.is("one more", x.run(40_001, 0), 1);
        DUE.is("one more, and no moment either", x.run(40_001, Long.MAX_VALUE), 1);
        DUE.is("the highest", x.run(Long.MAX_VALUE, Long.MIN_VALUE), 1);
        DUE.is("10,000 is as far as the moment leads", x.run(40_000, 20_000_000), 0);
        DUE.is("none with 15,000, which the moment leads to", x.run(40_000, 20_000_001), 1);
        DUE.is("none with 20,000 alone", x.run(30_001, 30_000_000), 1);
        DUE.is("without fibres", Sections.empty().run(1, 0), 1);
    }

    private static void promise11NoMoment() {
        DUE.sentence("Promise 11: 2 the moment can't be");
        SectionFibres x = Sections.pair(30_000);
        DUE.is("the highest moment that any bend has", x.run(0, 40_000_000), 0);
        DUE.is("one more", x.run(0, 40_000_001), 2);
        DUE.is("the highest", x.run(0, Long.MAX_VALUE), 2);
        DUE.is("a fibre in the middle, moment 0", Sections.single().run(0, 0), 0);
        DUE.is("a fibre in the middle, moment 1", Sections.single().run(0, 1), 2);
        DUE.is("without fibres", Sections.empty().run(0, 1), 2);
    }

    private static void promise11PlaneStays() {
        DUE.sentence("Promise 11: (with 1, 2 the plane at hand stays)");
        TWINS.answers("1, with a plane", AskingBoundsTest::pairSolved, 1, x -> x.run(40_001, 0));
        TWINS.answers("1 in the end, with a plane", AskingBoundsTest::pairSolved, 1, x -> x.run(30_001, 40_000_000));
        TWINS.answers("2, with a plane", AskingBoundsTest::pairSolved, 2, x -> x.run(0, 40_000_001));
        TWINS.answers("1, without a plane", AskingBoundsTest::wide, 1, x -> x.run(40_001, 0));
        TWINS.answers("1 in the end, without a plane", AskingBoundsTest::wide, 1, x -> x.run(30_001, 40_000_000));
        TWINS.answers("2, without a plane", AskingBoundsTest::wide, 2, x -> x.run(0, 40_000_001));
        SectionFibres x = pairSolved();
        x.run(40_001, 5);
        x.run(6, 40_000_001);
        DUE.is("told(0)", x.told(0), 4);
        DUE.is("told(1)", x.told(1), 7);
        DUE.is("residual(0) of what was solved", x.residual(0), 1);
        DUE.is("residual(1) of what was solved", x.residual(1), 1);
    }

    private static void promise12Plane() {
        DUE.sentence("Promise 12: Of the plane at hand: 0 E, 1 K");
        TWINS.answers("told(0)", AskingBoundsTest::pairSolved, 4, x -> x.told(0));
        TWINS.answers("told(1)", AskingBoundsTest::pairSolved, 7, x -> x.told(1));
        SectionFibres x = Sections.pair(30_000);
        x.run(-2, -4_000);
        DUE.is("E is BAD's number", x.told(0), -1);
        DUE.is("K", x.told(1), -2);
    }

    private static void promise12FirstBeyond() {
        DUE.sentence("Promise 12: 2 the first fibre whose strain (what works) is beyond its row (BAD: none)");
        SectionFibres x = Sections.single();
        x.point(1, -3, 0);
        x.point(1, 3, 0);
        x.fibre(0, 0, 2);
        x.fibre(0, 0, 1);
        x.fibre(0, 0, 1);
        x.run(30, 0);
        DUE.is("none is beyond", x.told(2), BAD);
        x.run(40, 0);
        DUE.is("the first of two", x.told(2), 2);
        x.born(2, 1);
        x.run(40, 0);
        DUE.is("3 works on the first, 4 on the second", x.told(2), 3);
        x.creeps(1, 34);
        x.run(40, 0);
        DUE.is("2 works on both", x.told(2), BAD);
        x.shrinks(1, 10);
        x.run(40, 0);
        DUE.is("- 5 works on the first, - 4 on the second", x.told(2), 2);
        x.keeps(2, 0);
        x.run(40, 0);
        DUE.is("a fibre that keeps nothing is beyond too", x.told(2), 2);
        SectionFibres first = Sections.straight(5);
        first.fibre(1, 0, 0);
        first.run(Long.MIN_VALUE, 0);
        DUE.is("fibre 0", first.told(2), 0);
        SectionFibres bent = Sections.pair(100);
        bent.fibre(0, 1_009, 0);
        bent.run(0, 200_000);
        DUE.is("a bend of 100 leads the third to 100", bent.told(2), BAD);
        bent.fibre(0, 1_010, 0);
        bent.run(0, 200_000);
        DUE.is("a bend of 100 leads the fourth to 101", bent.told(2), 3);
        SectionFibres last = Sections.single();
        for (int i = 1; i < 40; i++) {
            last.fibre(0, 0, i < 39 ? 0 : 1);
        }
        last.point(1, 0, 0);
        last.run(10, 0);
        DUE.is("fibre 39", last.told(2), 39);
    }

    private static void promise12AnotherNumber() {
        DUE.sentence("Promise 12: BAD: another number");
        int[] refused = {-1, 3, MIN, MAX};
        for (int what : refused) {
            TWINS.answers("told(" + what + ")", AskingBoundsTest::pairSolved, BAD, x -> x.told(what));
            TWINS.answers("told(" + what + ") without a plane", AskingBoundsTest::wide, BAD, x -> x.told(what));
        }
    }

    private static void promise12NoPlane() {
        DUE.sentence("Promise 12: BAD: .. no plane");
        for (int w = 0; w <= 2; w++) {
            int what = w;
            TWINS.answers("told(" + what + ") of a new object", Sections::empty, BAD, x -> x.told(what));
            TWINS.answers("told(" + what + ") of a section", Sections::mixed, BAD, x -> x.told(what));
        }
        SectionFibres x = Sections.straight(5);
        x.fibre(1, 0, 0);
        x.run(Long.MIN_VALUE, 0);
        x.born(0, 0);
        DUE.is("told(2) with a fibre that would be beyond", x.told(2), BAD);
    }

    private static void promise13MoreThanSolvedFor() {
        DUE.sentence("Promise 13: FORCE (0) or MOMENT (1) is more than the force or moment that was solved for");
        TWINS.answers("residual(0)", AskingBoundsTest::pairSolved, 1, x -> x.residual(0));
        TWINS.answers("residual(1)", AskingBoundsTest::pairSolved, 1, x -> x.residual(1));
        SectionFibres x = Sections.pair(30_000);
        x.run(8, 14_000);
        DUE.is("just the force", x.residual(0), 0);
        DUE.is("just the moment", x.residual(1), 0);
        x.run(-40_007, -40_000_009);
        DUE.is("a force below the least, which is - 30,000 with that bend", x.residual(0), 10_007);
        DUE.is("a moment below the least, which is - 30,000,000", x.residual(1), 10_000_009);
    }

    /** A fibre whose stress is the same everywhere: FORCE and MOMENT are known for every plane. */
    private static SectionFibres constant(int stress) {
        SectionFibres x = Sections.empty();
        x.point(0, 0, stress);
        x.fibre(1, 1_000, 0);
        return x;
    }

    private static void promise13Wraps() {
        DUE.sentence("Promise 13: (64 bits, that wrap)");
        SectionFibres more = constant(3);
        more.run(Long.MIN_VALUE, Long.MIN_VALUE);
        DUE.is("3 less MIN", more.residual(0), Long.MIN_VALUE + 3);
        DUE.is("3,000 less MIN", more.residual(1), Long.MIN_VALUE + 3_000);
        more.run(Long.MIN_VALUE + 3, Long.MIN_VALUE + 3_000);
        DUE.is("3 less MIN and 3, the first that wraps", more.residual(0), Long.MIN_VALUE);
        DUE.is("3,000 less MIN and 3,000, the first that wraps", more.residual(1), Long.MIN_VALUE);
        more.run(Long.MIN_VALUE + 4, Long.MIN_VALUE + 3_001);
        DUE.is("3 less MIN and 4, the last that does not", more.residual(0), Long.MAX_VALUE);
        DUE.is("3,000 less MIN and 3,001, the last that does not", more.residual(1), Long.MAX_VALUE);
        SectionFibres less = constant(-3);
        less.run(Long.MIN_VALUE, Long.MIN_VALUE);
        DUE.is("- 3 less MIN", less.residual(0), Long.MAX_VALUE - 2);
        DUE.is("- 3,000 less MIN", less.residual(1), Long.MAX_VALUE - 2_999);
        SectionFibres none = constant(0);
        none.run(-NONE, 0);
        DUE.is("what can't be leaves no plane", none.residual(0), NONE);
        none.run(NONE, NONE);
        DUE.is("0 less NONE", none.residual(0), -NONE);
    }

    private static void promise13NoneSuch() {
        DUE.sentence("Promise 13: NONE: none such");
        int[] refused = {-1, 2, MIN, MAX};
        for (int what : refused) {
            TWINS.answers("residual(" + what + ")", AskingBoundsTest::pairSolved, NONE, x -> x.residual(what));
            TWINS.answers("residual(" + what + ") without a plane", AskingBoundsTest::wide, NONE, x -> x.residual(what));
        }
        TWINS.answers("residual(0) without a plane", AskingBoundsTest::wide, NONE, x -> x.residual(0));
        TWINS.answers("residual(1) without a plane", AskingBoundsTest::wide, NONE, x -> x.residual(1));
    }

    private static void promise14Fibre() {
        DUE.sentence("Promise 14: A fibre's strain that works (0), its stress (1) in the plane at hand");
        SectionFibres x = Sections.single();
        x.point(1, -5, -500);
        x.point(1, 5, 500);
        x.fibre(0, 0, 1);
        x.fibre(0, 0, 1);
        x.born(1, 10);
        x.shrinks(1, 3);
        x.creeps(1, 100);
        x.keeps(1, 33);
        x.run(60, 0);
        DUE.is("in(0, 0)", x.in(0, 0), 6);
        DUE.is("in(0, 1)", x.in(0, 1), 6);
        DUE.is("in(1, 0), - 7 by 2", x.in(1, 0), -3);
        DUE.is("in(1, 1), - 300 by 3", x.in(1, 1), -99);
        DUE.is("in(2, 0), 3 by 2", x.in(2, 0), 1);
        DUE.is("in(2, 1)", x.in(2, 1), 100);
        x.run(200, 0);
        DUE.is("in(2, 0) beyond its row", x.in(2, 0), 8);
        DUE.is("in(2, 1) beyond its row", x.in(2, 1), 500);
        TWINS.answers("in(0, 0) of a pair", AskingBoundsTest::pairSolved, -3, y -> y.in(0, 0));
        TWINS.answers("in(1, 1) of a pair", AskingBoundsTest::pairSolved, 11, y -> y.in(1, 1));
    }

    private static void promise14NoSuchFibre() {
        DUE.sentence("Promise 14: ArrayIndexOutOfBoundsException: no such fibre");
        int[] refused = {-1, 2, 3, 39, 40, 41, MIN, MAX};
        for (int fibre : refused) {
            TWINS.throwsIndex("in(" + fibre + ", 0) of 2", AskingBoundsTest::pairSolved, x -> x.in(fibre, 0));
            TWINS.throwsIndex("in(" + fibre + ", 1) of 2", AskingBoundsTest::pairSolved, x -> x.in(fibre, 1));
        }
        TWINS.throwsIndex("in(40, 0) of 40", Sections::full, x -> x.in(40, 0));
        TWINS.answers("in(39, 2) of 40", Sections::full, NONE_E, x -> x.in(39, 2));
        SectionFibres none = Sections.empty();
        none.run(0, 0);
        DUE.throwsIndex("in(0, 0) of none, with a plane", () -> none.in(0, 0));
    }

    private static void promise14FirstOfAll() {
        DUE.sentence("Promise 14: (first of all)");
        TWINS.throwsIndex("in(2, 0) without a plane", AskingBoundsTest::wide, x -> x.in(2, 0));
        TWINS.throwsIndex("in(-1, 0) without a plane", AskingBoundsTest::wide, x -> x.in(-1, 0));
        TWINS.throwsIndex("in(2, 2) with a plane", AskingBoundsTest::pairSolved, x -> x.in(2, 2));
        TWINS.throwsIndex("in(-1, -1) with a plane", AskingBoundsTest::pairSolved, x -> x.in(-1, -1));
        TWINS.throwsIndex("in(2, 2) without a plane", AskingBoundsTest::wide, x -> x.in(2, 2));
        TWINS.throwsIndex("in(0, 2) of a new object", Sections::empty, x -> x.in(0, 2));
    }

    private static void promise14NoPlane() {
        DUE.sentence("Promise 14: NONE_E: no plane");
        for (int f = 0; f <= 1; f++) {
            int fibre = f;
            TWINS.answers("in(" + fibre + ", 0)", AskingBoundsTest::wide, NONE_E, x -> x.in(fibre, 0));
            TWINS.answers("in(" + fibre + ", 1)", AskingBoundsTest::wide, NONE_E, x -> x.in(fibre, 1));
            TWINS.answers("in(" + fibre + ", 2)", AskingBoundsTest::wide, NONE_E, x -> x.in(fibre, 2));
        }
    }

    private static void promise14AnotherNumber() {
        DUE.sentence("Promise 14: NONE_E: .. another number");
        int[] refused = {-1, 2, MIN, MAX};
        for (int what : refused) {
            TWINS.answers("in(0, " + what + ")", AskingBoundsTest::pairSolved, NONE_E, x -> x.in(0, what));
            TWINS.answers("in(1, " + what + ")", AskingBoundsTest::pairSolved, NONE_E, x -> x.in(1, what));
        }
    }

    private static void promise15Bend() {
        DUE.sentence("Promise 15: with the bend k times step (step 1 .. 1,000, k 0 .. 20)");
        int[][] due = {{1, 0}, {1, 1}, {1, 20}, {2, 10}, {999, 19}, {1_000, 0}, {1_000, 1}, {1_000, 20}};
        for (int[] d : due) {
            TWINS.answers("curve(0, " + d[0] + ", " + d[1] + ")", AskingBoundsTest::pairSolved, 2_000L * d[0] * d[1],
                x -> x.curve(0, d[0], d[1]));
        }
        TWINS.answers("curve(9, 3, 4) with E 5", AskingBoundsTest::pairSolved, 24_000, x -> x.curve(9, 3, 4));
        TWINS.answers("curve(MIN, 1000, 20)", AskingBoundsTest::pairSolved, 30_000_000,
            x -> x.curve(Long.MIN_VALUE, 1_000, 20));
    }

    private static void promise15ThereIsNone() {
        DUE.sentence("Promise 15: NONE: there is none");
        TWINS.answers("curve(30000, 1000, 20)", AskingBoundsTest::pairSolved, 30_000_000, x -> x.curve(30_000, 1_000, 20));
        TWINS.answers("curve(30001, 1000, 20)", AskingBoundsTest::pairSolved, NONE, x -> x.curve(30_001, 1_000, 20));
        TWINS.answers("curve(40000, 1, 0)", AskingBoundsTest::pairSolved, 0, x -> x.curve(40_000, 1, 0));
        TWINS.answers("curve(40001, 1, 0)", AskingBoundsTest::pairSolved, NONE, x -> x.curve(40_001, 1, 0));
        TWINS.answers("curve(MAX, 1, 0)", AskingBoundsTest::pairSolved, NONE, x -> x.curve(Long.MAX_VALUE, 1, 0));
        TWINS.answers("curve(1, 1, 1) without fibres", Sections::empty, NONE, x -> x.curve(1, 1, 1));
    }

    private static void promise15NoneSuch() {
        DUE.sentence("Promise 15: NONE: .. none such");
        int[][] refused = {
            {0, 0}, {0, 1}, {-1, 1}, {-1, -1}, {1_001, 0}, {1_001, 1}, {MIN, 0}, {MAX, 0}, {MIN, 2},
            {1, -1}, {1, 21}, {1_000, -1}, {1_000, 21}, {1, MIN}, {1, MAX}, {MAX, MAX}, {65_536, 65_536},
        };
        for (int[] r : refused) {
            TWINS.answers("curve(0, " + r[0] + ", " + r[1] + ")", AskingBoundsTest::pairSolved, NONE,
                x -> x.curve(0, r[0], r[1]));
        }
    }

    /** A pair whose row ends at 100, with a plane at hand: with force 0 a bend above 100 is beyond. */
    private static SectionFibres shortSolved() {
        SectionFibres x = Sections.pair(100);
        x.run(0, 2_000);
        return x;
    }

    private static void promise16FirstBend() {
        DUE.sentence("Promise 16: The first k of 0 .. 20 with which .. some fibre is beyond its row");
        TWINS.answers("with 1,000", AskingBoundsTest::shortSolved, 1, x -> x.last(0, 1_000));
        TWINS.answers("with 101", AskingBoundsTest::shortSolved, 1, x -> x.last(0, 101));
        TWINS.answers("with 200, as 100 is none", AskingBoundsTest::shortSolved, 2, x -> x.last(0, 100));
        TWINS.answers("with 102, as 96 is none", AskingBoundsTest::shortSolved, 17, x -> x.last(0, 6));
        TWINS.answers("without a bend", AskingBoundsTest::shortSolved, 0, x -> x.last(-200, 1));
        TWINS.answers("without a bend there is one that is not yet", AskingBoundsTest::shortSolved, 1, x -> x.last(200, 1));
        DUE.is("with the last of all bends", Sections.pair(99).last(0, 5), 20);
        DUE.is("with the last but one", Sections.pair(94).last(0, 5), 19);
    }

    private static void promise16None() {
        DUE.sentence("Promise 16: BAD: none");
        TWINS.answers("the last bend ends where the row does", AskingBoundsTest::shortSolved, BAD, x -> x.last(0, 5));
        TWINS.answers("small bends", AskingBoundsTest::shortSolved, BAD, x -> x.last(0, 1));
        TWINS.answers("without fibres", Sections::empty, BAD, x -> x.last(0, 1_000));
        SectionFibres bare = Sections.empty();
        bare.fibre(1, 2_000, 3);
        DUE.is("a kind without points", bare.last(0, 1_000), BAD);
    }

    /**
     * Force 10 comes from the fibre at - 1,000 without a bend, from that at 1,000 from a bend of 2 on,
     * and from none with 1; the fibre of no area is beyond its row from a bend of 2 on.
     */
    private static SectionFibres gap() {
        SectionFibres x = Sections.empty();
        x.point(0, -30_000, 0);
        x.point(0, 19_999, 0);
        x.point(0, 20_000, 10);
        x.point(1, -30_000, 0);
        x.point(1, 20_001, 0);
        x.point(1, 20_002, 10);
        x.point(2, 0, 0);
        x.point(2, 20_003, 0);
        x.fibre(1, -1_000, 0);
        x.fibre(1, 1_000, 1);
        x.fibre(0, 2_000, 2);
        return x;
    }

    private static void promise16NoBalanceBefore() {
        DUE.sentence("Promise 16: BAD: .. there is no balance with some bend before");
        TWINS.answers("the balance without a bend", AskingBoundsTest::gap, 20_000, x -> x.balance(10, 0));
        TWINS.answers("none with a bend of 1", AskingBoundsTest::gap, NONE_E, x -> x.balance(10, 1));
        TWINS.answers("one with a bend of 2", AskingBoundsTest::gap, 20_000, x -> x.balance(10, 2));
        TWINS.answers("beyond with 2, no balance with 1", AskingBoundsTest::gap, BAD, x -> x.last(10, 1));
        TWINS.answers("beyond with 2, which is the next bend", AskingBoundsTest::gap, 1, x -> x.last(10, 2));
        TWINS.answers("no balance without a bend", AskingBoundsTest::shortSolved, BAD, x -> x.last(201, 1));
        TWINS.answers("no balance only behind the first beyond", AskingBoundsTest::wide, 15, x -> x.last(30_001, 1_000));
        TWINS.answers("no balance, then none at all", AskingBoundsTest::wide, BAD, x -> x.last(40_000, 1_000));
        TWINS.answers("the highest force", AskingBoundsTest::wide, BAD, x -> x.last(Long.MAX_VALUE, 1_000));
    }

    private static void promise16NoneSuchStep() {
        DUE.sentence("Promise 16: BAD: .. none such step");
        int[] refused = {0, -1, 1_001, MIN, MAX};
        for (int step : refused) {
            TWINS.answers("last(-200, " + step + ")", AskingBoundsTest::shortSolved, BAD, x -> x.last(-200, step));
        }
        int[] taken = {1, 2, 999, 1_000};
        for (int step : taken) {
            TWINS.answers("last(-200, " + step + ")", AskingBoundsTest::shortSolved, 0, x -> x.last(-200, step));
        }
    }

    /** Kind 1 has a stress of 10 everywhere; no fibres yet. */
    private static SectionFibres ten() {
        SectionFibres x = Sections.empty();
        x.point(1, 0, 10);
        return x;
    }

    private static void promise17LeastArea() {
        DUE.sentence("Promise 17: The least area of 0, step, 2 step, .. 20 step (step 1 .. 5,000)");
        long[][] due = {
            {1, 0, 0, 0}, {5, 0, 0, 0}, {5, 1, 0, 5}, {5, 50, 0, 5}, {5, 51, 0, 10}, {5, 100, 0, 10}, {5, 950, 0, 95},
            {5, 951, 0, 100}, {5, 1_000, 0, 100}, {1, 10, 0, 1}, {1, 11, 0, 2}, {1, 200, 0, 20}, {5_000, 1, 0, 5_000},
            {5_000, 50_001, 0, 10_000}, {5_000, 1_000_000, 0, 100_000}, {4_999, 999_800, 0, 99_980},
            {5, 0, 1, 5}, {5, 0, 50_000, 5}, {5, 0, 50_001, 10}, {5, 51, 50_000, 10}, {5, 50, 50_001, 10},
            {5, Long.MIN_VALUE, Long.MIN_VALUE, 0},
        };
        for (long[] d : due) {
            TWINS.answers("needed(1000, 1, " + d[0] + ", " + d[1] + ", " + d[2] + ")", AskingBoundsTest::ten, d[3],
                x -> x.needed(1_000, 1, (int) d[0], d[1], d[2]));
        }
        DUE.is("a fibre that is there helps", tenWith(3).needed(1_000, 1, 1, 50, 0), 2);
        DUE.is("a fibre that is there is enough", tenWith(5).needed(1_000, 1, 1, 50, 0), 0);
        DUE.is("the least, though more is too much", tenWith(1).needed(-1_000, 1, 1, 20, 0), 1);
        DUE.is("what the force needs is too much for the moment", tenWith(1).needed(-1_000, 1, 1, 20, 1), BAD);
    }

    private static SectionFibres tenWith(int area) {
        SectionFibres x = ten();
        x.fibre(area, 1_000, 1);
        return x;
    }

    private static SectionFibres tenAndForty() {
        SectionFibres x = ten();
        for (int i = 0; i < 40; i++) {
            x.fibre(1, 1_000, 1);
            x.born(i, 100 + i);
            x.keeps(i, 50);
        }
        x.run(200, 200_000);
        return x;
    }

    private static void promise17EvenWithForty() {
        DUE.sentence("Promise 17: (1 more fibre may be, even if there are 40");
        TWINS.answers("40 are enough", AskingBoundsTest::tenAndForty, 0, x -> x.needed(1_000, 1, 3, 200, 200_000));
        TWINS.answers("the 41st helps", AskingBoundsTest::tenAndForty, 3, x -> x.needed(1_000, 1, 3, 230, 230_000));
        TWINS.answers("the 41st has to be larger", AskingBoundsTest::tenAndForty, 6,
            x -> x.needed(1_000, 1, 3, 231, 230_000));
        TWINS.answers("20 steps of it", AskingBoundsTest::tenAndForty, 60, x -> x.needed(1_000, 1, 3, 800, 0));
        TWINS.answers("20 steps of it are too little", AskingBoundsTest::tenAndForty, BAD,
            x -> x.needed(1_000, 1, 3, 801, 0));
        SectionFibres x = tenAndForty();
        x.needed(1_000, 1, 3, 230, 0);
        x.needed(1_000, 1, 3, 801, 0);
        DUE.is("one fibre more is refused all the same", x.fibre(1, 0, 0), BAD);
        DUE.throwsIndex("in(40, 0)", () -> x.in(40, 0));
        DUE.is("born(40, 0)", x.born(40, 0), false);
    }

    private static void promise17NothingIsChanged() {
        DUE.sentence("Promise 17: nothing is changed)");
        TWINS.answers("an area is found", Sections::solved, 0, x -> x.needed(2_000, 3, 7, 0, 0));
        TWINS.answers("none is found", Sections::solved, BAD, x -> x.needed(2_000, 3, 7, Long.MAX_VALUE, 0));
        TWINS.answers("without a plane", Sections::mixed, 0, x -> x.needed(2_000, 3, 7, 0, 0));
        TWINS.answers("without fibres", Sections::empty, BAD, x -> x.needed(2_000, 3, 7, 0, 1));
        TWINS.answers("with 40 fibres", Sections::full, 0, x -> x.needed(2_000, 3, 7, 0, 0));
        SectionFibres x = pairSolved();
        x.needed(500, 0, 5_000, 50_000, 0);
        DUE.is("told(0)", x.told(0), 4);
        DUE.is("residual(0)", x.residual(0), 1);
        DUE.is("count(0)", x.count(0), 2);
        DUE.is("count(1)", x.count(1), 2);
        DUE.throwsIndex("in(2, 0)", () -> x.in(2, 0));
        DUE.is("the next fibre is the third", x.fibre(3, 0, 0), 2);
        DUE.is("with its own area, place and kind", x.of(5, 100, 0), -95 + 105 + 15);
    }

    private static void promise17NoneSuch() {
        DUE.sentence("Promise 17: BAD: none such");
        int[][] refused = {
            {-2_001, 1, 5}, {2_001, 1, 5}, {MIN, 1, 5}, {MAX, 1, 5}, {0, -1, 5}, {0, 4, 5}, {0, MIN, 5}, {0, MAX, 5},
            {0, 1, 0}, {0, 1, -1}, {0, 1, 5_001}, {0, 1, MIN}, {0, 1, MAX},
        };
        for (int[] r : refused) {
            String call = "needed(" + r[0] + ", " + r[1] + ", " + r[2] + ", 0, 0)";
            TWINS.answers(call, Sections::solved, BAD, x -> x.needed(r[0], r[1], r[2], 0, 0));
            TWINS.answers(call + " of 40", Sections::full, BAD, x -> x.needed(r[0], r[1], r[2], 0, 0));
        }
        int[][] taken = {{-2_000, 1, 5}, {2_000, 1, 5}, {0, 0, 5}, {0, 3, 5}, {0, 1, 1}, {0, 1, 5_000}};
        for (int[] t : taken) {
            TWINS.answers("needed(" + t[0] + ", " + t[1] + ", " + t[2] + ", 0, 0)", Sections::solved, 0,
                x -> x.needed(t[0], t[1], t[2], 0, 0));
        }
        DUE.is("the place - 2,000", ten().needed(-2_000, 1, 1, 10, -20_000), 1);
        DUE.is("the place - 2,000 has no more", ten().needed(-2_000, 1, 1, 10, -19_999), BAD);
        DUE.is("the place 2,000", ten().needed(2_000, 1, 1, 10, 20_000), 1);
        DUE.is("the place 2,000 needs more", ten().needed(2_000, 1, 1, 10, 20_001), 2);
    }

    private static void promise17TooLittle() {
        DUE.sentence("Promise 17: BAD: .. 20 step is too little");
        long[][] due = {{1, 200, 20}, {1, 201, BAD}, {5_000, 1_000_000, 100_000}, {5_000, 1_000_001, BAD}};
        for (long[] d : due) {
            String call = "needed(0, 1, " + d[0] + ", " + d[1] + ", 0)";
            TWINS.answers(call, AskingBoundsTest::ten, d[2], x -> x.needed(0, 1, (int) d[0], d[1], 0));
        }
        TWINS.answers("for the moment", AskingBoundsTest::ten, 20, x -> x.needed(1_000, 1, 1, 0, 200_000));
        TWINS.answers("for one more", AskingBoundsTest::ten, BAD, x -> x.needed(1_000, 1, 1, 0, 200_001));
        TWINS.answers("a kind without points", AskingBoundsTest::ten, BAD, x -> x.needed(0, 0, 5_000, 1, 0));
        TWINS.answers("the highest force", AskingBoundsTest::ten, BAD, x -> x.needed(0, 1, 5_000, Long.MAX_VALUE, 0));
        TWINS.answers("the highest moment", AskingBoundsTest::ten, BAD, x -> x.needed(0, 1, 5_000, 0, Long.MAX_VALUE));
    }

    /** Kind 2 gives 10 where at least 17,001 works, and nothing below. */
    private static SectionFibres late() {
        SectionFibres x = Sections.empty();
        x.point(2, 17_000, 0);
        x.point(2, 17_001, 10);
        return x;
    }

    private static void promise17FibreAsAtFirst() {
        DUE.sentence("Terms: BORN with (0 at first), KEPT hundredths (100 at first): of the fibre that is tried");
        DUE.is("20,000 can work on it", late().needed(0, 2, 1, 10, 0), 1);
        SectionFibres x = late();
        x.shrinks(2, 2_999);
        DUE.is("17,001 can work on it", x.needed(0, 2, 1, 10, 0), 1);
        x.shrinks(2, 3_000);
        DUE.is("17,000 can work on it", x.needed(0, 2, 1, 10, 0), BAD);
        x.shrinks(2, 0);
        x.creeps(2, 17);
        DUE.is("17,094 can work on it", x.needed(0, 2, 1, 10, 0), 1);
        x.creeps(2, 18);
        DUE.is("16,949 can work on it", x.needed(0, 2, 1, 10, 0), BAD);
        x.creeps(2, 0);
        x.fibre(1, 0, 2);
        x.born(0, 30_000);
        x.keeps(0, 0);
        DUE.is("another fibre's birth and keeping are its own", x.needed(0, 2, 1, 10, 0), 1);
    }

    private static void promise18Numbers() {
        DUE.sentence("Promise 18: 0 fibres, 1 all their areas, 2 .. 5 points of kinds 0 .. 3");
        int[] due = {4, 357, 2, 3, 0, 0};
        int[] dueFull = {40, 357 + 774, 2, 3, 0, 0};
        int[] dueRows = {4, 46, 8, 8, 8, 8};
        for (int w = 0; w <= 5; w++) {
            int what = w;
            TWINS.answers("count(" + what + ")", Sections::solved, due[what], x -> x.count(what));
            TWINS.answers("count(" + what + ") of 40", Sections::full, dueFull[what], x -> x.count(what));
            TWINS.answers("count(" + what + ") of full rows", Sections::fullRows, dueRows[what], x -> x.count(what));
            TWINS.answers("count(" + what + ") of a new object", Sections::empty, 0, x -> x.count(what));
        }
        SectionFibres most = Sections.empty();
        for (int i = 0; i < 41; i++) {
            most.fibre(100_000, 0, 0);
        }
        DUE.is("the highest of all areas", most.count(1), 4_000_000);
    }

    private static void promise18AnotherNumber() {
        DUE.sentence("Promise 18: BAD: another number");
        int[] refused = {-1, 6, 7, MIN, MAX};
        for (int what : refused) {
            TWINS.answers("count(" + what + ")", Sections::solved, BAD, x -> x.count(what));
            TWINS.answers("count(" + what + ") of full rows", Sections::fullRows, BAD, x -> x.count(what));
        }
    }

    private static void fiveHundredTwelveCalls() {
        DUE.sentence("An object is used for at most 512 calls after it has been made");
        SectionFibres x = Sections.pair(30_000);
        int calls = 4;
        while (calls < 511) {
            DUE.is("call " + calls + ", run", x.run(2L * calls, -2_000L * calls), 0);
            calls++;
        }
        DUE.is("the last call, told(1)", x.told(1), -510);
    }
}
