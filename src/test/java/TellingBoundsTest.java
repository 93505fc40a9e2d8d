/**
 * Promises 1 to 7: each sentence that names a bound or a refusal, on both sides. What is refused
 * leaves the object as it was, the plane at hand too; what is taken lets the plane go.
 */
final class TellingBoundsTest {
    private static final int BAD = Due.BAD;
    private static final int NONE_E = Due.NONE_E;
    private static final long NONE = Due.NONE;
    private static final int MIN = Integer.MIN_VALUE;
    private static final int MAX = Integer.MAX_VALUE;

    private static final int[] TEN_TO = {1, 10, 100, 1_000};

    private static final Due DUE = new Due();
    private static final Twins TWINS = new Twins(DUE);

    public static void main(String[] args) {
        promise1NoFibres();
        promise1RowsWithoutPoints();
        promise1NoPlane();
        promise2WhichOne();
        promise2Area();
        promise2PlaceOrKind();
        promise2ThereAreForty();
        promise2PlaneIsGone();
        promise2UpToKeeps();
        promise2IfNotRefused();
        promise3Strain();
        promise3AboveTheLastOne();
        promise3Stress();
        promise3NotBelowTheLastOne();
        promise3NoneSuch();
        promise3ThereAreEight();
        promise4Strain();
        promise4NoneSuch();
        promise5Percent();
        promise5NoneSuch();
        promise6Strain();
        promise6NoneSuch();
        promise7Percent();
        promise7NoneSuch();
        DUE.end("TellingBoundsTest");
    }

    /** One fibre of 1 of kind 0 in the middle, whose FORCE is the strain that works, and a plane at hand. */
    private static SectionFibres oneSolved() {
        SectionFibres x = Sections.one(0);
        x.run(0, 0);
        return x;
    }

    /** Fibres of 1, 10, 100 and 1,000 of kinds 0 to 3 in the middle, so that FORCE shows each, and a plane at hand. */
    private static SectionFibres fourSolved() {
        SectionFibres x = Sections.empty();
        for (int kind = 0; kind <= 3; kind++) {
            x.point(kind, -30_000, -30_000);
            x.point(kind, 30_000, 30_000);
            x.fibre(TEN_TO[kind], 0, kind);
        }
        x.run(0, 0);
        return x;
    }

    private static void promise1NoFibres() {
        DUE.sentence("Promise 1: No fibres");
        SectionFibres x = new SectionFibres();
        DUE.is("count(0)", x.count(0), 0);
        DUE.is("count(1)", x.count(1), 0);
        DUE.throwsIndex("in(0, 0)", () -> x.in(0, 0));
        DUE.is("born(0, 0)", x.born(0, 0), false);
        DUE.is("keeps(0, 0)", x.keeps(0, 0), false);
        DUE.is("of(20000, 20000, 0)", x.of(20_000, 20_000, 0), 0);
        DUE.is("of(20000, 20000, 1)", x.of(20_000, 20_000, 1), 0);
        DUE.is("curve(0, 1000, 20)", x.curve(0, 1_000, 20), 0);
        DUE.is("curve(1, 1000, 20)", x.curve(1, 1_000, 20), NONE);
        DUE.is("last(0, 1)", x.last(0, 1), BAD);
        DUE.is("needed(0, 0, 1, 0, 0)", x.needed(0, 0, 1, 0, 0), 0);
        DUE.is("needed(0, 0, 1, 1, 0)", x.needed(0, 0, 1, 1, 0), BAD);
        DUE.is("run(1, 0)", x.run(1, 0), 1);
        DUE.is("run(0, 1)", x.run(0, 1), 2);
        DUE.is("run(0, 0)", x.run(0, 0), 0);
        DUE.is("told(0)", x.told(0), -20_000);
        DUE.is("told(1)", x.told(1), -20_000);
        DUE.is("told(2)", x.told(2), BAD);
        DUE.is("the first fibre", x.fibre(1, 0, 0), 0);
    }

    private static void promise1RowsWithoutPoints() {
        DUE.sentence("Promise 1: rows without points");
        SectionFibres x = new SectionFibres();
        for (int kind = 0; kind <= 3; kind++) {
            DUE.is("count(" + (2 + kind) + ")", x.count(2 + kind), 0);
            DUE.is("row(" + kind + ", 30000)", x.row(kind, 30_000), 0);
        }
        for (int kind = 0; kind <= 3; kind++) {
            DUE.is("the lowest strain is no step back, kind " + kind, x.point(kind, -30_000, -1_000_000), true);
        }
    }

    private static void promise1NoPlane() {
        DUE.sentence("Promise 1: no plane at hand");
        SectionFibres x = new SectionFibres();
        for (int what = 0; what <= 2; what++) {
            DUE.is("told(" + what + ")", x.told(what), BAD);
        }
        DUE.is("residual(0)", x.residual(0), NONE);
        DUE.is("residual(1)", x.residual(1), NONE);
        x.fibre(1, 0, 0);
        DUE.is("in(0, 0)", x.in(0, 0), NONE_E);
        DUE.is("in(0, 1)", x.in(0, 1), NONE_E);
        SectionFibres other = Sections.solved();
        DUE.is("another object's plane is its own", x.residual(0), NONE);
        DUE.is("the other object has one", other.residual(0) != NONE, true);
    }

    private static void promise2WhichOne() {
        DUE.sentence("Promise 2: One more fibre: which one");
        SectionFibres x = Sections.straight(30_000);
        DUE.is("the first", x.fibre(1, 0, 0), 0);
        DUE.is("the second", x.fibre(1, 0, 0), 1);
        x.fibre(-1, 0, 0);
        DUE.is("the third, behind one that was refused", x.fibre(1, 0, 0), 2);
        x.needed(0, 0, 1, 0, 0);
        DUE.is("the fourth, behind one that was only tried", x.fibre(1, 0, 0), 3);
        DUE.is("count(0)", x.count(0), 4);
    }

    private static void promise2Area() {
        DUE.sentence("Promise 2: BAD: area is not 0 .. 100,000");
        int[] refused = {-1, 100_001, MIN, MAX};
        for (int area : refused) {
            TWINS.answers("area " + area, Sections::solved, BAD, x -> x.fibre(area, 0, 0));
        }
        int[] taken = {0, 1, 99_999, 100_000};
        for (int area : taken) {
            SectionFibres x = TWINS.takes("area " + area, Sections::solved, 4, y -> y.fibre(area, 0, 0));
            DUE.is("all areas with " + area, x.count(1), 357 + area);
        }
    }

    private static void promise2PlaceOrKind() {
        DUE.sentence("Promise 2: BAD: .. no such place or kind");
        int[][] refused = {
            {-2_001, 0}, {2_001, 0}, {MIN, 0}, {MAX, 0}, {0, -1}, {0, 4}, {0, MIN}, {0, MAX}, {-2_001, 4}, {2_001, -1},
        };
        for (int[] r : refused) {
            TWINS.answers("fibre(1, " + r[0] + ", " + r[1] + ")", Sections::solved, BAD, x -> x.fibre(1, r[0], r[1]));
        }
        int[][] taken = {{-2_000, 0}, {2_000, 0}, {-2_000, 3}, {2_000, 3}};
        for (int[] t : taken) {
            TWINS.takes("fibre(1, " + t[0] + ", " + t[1] + ")", Sections::solved, 4, x -> x.fibre(1, t[0], t[1]));
        }
    }

    private static void promise2ThereAreForty() {
        DUE.sentence("Promise 2: BAD: .. there are 40");
        TWINS.answers("one more than 40", Sections::full, BAD, x -> x.fibre(1, 0, 0));
        TWINS.answers("one of no area more than 40", Sections::full, BAD, x -> x.fibre(0, 0, 0));
        TWINS.answers("a wrong one more than 40", Sections::full, BAD, x -> x.fibre(-1, 3_000, 4));
        SectionFibres x = Sections.empty();
        for (int i = 0; i < 39; i++) {
            x.fibre(1, 0, 0);
        }
        DUE.is("with 39 there is room for one", x.fibre(1, 0, 0), 39);
        DUE.is("with 40 there is none", x.fibre(1, 0, 0), BAD);
        DUE.is("and none with the next call", x.fibre(1, 0, 0), BAD);
        DUE.is("count(0)", x.count(0), 40);
    }

    private static void promise2PlaneIsGone() {
        DUE.sentence("Promise 2: The plane at hand is gone");
        SectionFibres x = TWINS.takes("a fibre of no area", Sections::solved, 4, y -> y.fibre(0, 0, 0));
        DUE.is("a fibre that was refused brings none back", x.fibre(-1, 0, 0), BAD);
        DUE.is("told(0)", x.told(0), BAD);
        DUE.is("what can't be solved brings none back", x.run(Long.MAX_VALUE, 0), 1);
        DUE.is("told(0)", x.told(0), BAD);
        DUE.is("what is solved brings one", x.run(0, 0), 0);
        DUE.is("residual(0)", x.residual(0) >= 0, true);
    }

    /** Tellings that change no number that counts: the plane is gone all the same. */
    private static void promise2UpToKeeps() {
        DUE.sentence("Promise 2: (so with all that is told up to keeps()");
        TWINS.heeds("a point of a kind without fibres", Sections::solved, x -> x.point(3, 0, 0));
        TWINS.heeds("born with what it was born with", Sections::solved, x -> x.born(1, 40));
        TWINS.heeds("the creep that was", Sections::solved, x -> x.creeps(1, 50));
        TWINS.heeds("the creep of a kind without fibres", Sections::solved, x -> x.creeps(3, 0));
        TWINS.heeds("the shrinking that was", Sections::solved, x -> x.shrinks(0, -30));
        TWINS.heeds("the shrinking of a kind without fibres", Sections::solved, x -> x.shrinks(3, 0));
        TWINS.heeds("kept what was kept", Sections::solved, x -> x.keeps(2, 70));
    }

    private static void promise2IfNotRefused() {
        DUE.sentence("Promise 2: if it is not refused)");
        SectionFibres x = Sections.pair(30_000);
        x.run(7, 14_000);
        DUE.is("fibre(-1, 0, 0)", x.fibre(-1, 0, 0), BAD);
        DUE.is("point(0, 0, 0)", x.point(0, 0, 0), false);
        DUE.is("born(2, 0)", x.born(2, 0), false);
        DUE.is("creeps(4, 0)", x.creeps(4, 0), false);
        DUE.is("shrinks(4, 0)", x.shrinks(4, 0), false);
        DUE.is("keeps(2, 0)", x.keeps(2, 0), false);
        DUE.is("told(0)", x.told(0), 4);
        DUE.is("told(1)", x.told(1), 7);
        DUE.is("residual(0)", x.residual(0), 1);
        DUE.is("residual(1)", x.residual(1), 0);
        DUE.is("in(0, 0)", x.in(0, 0), -3);
        DUE.is("in(1, 1)", x.in(1, 1), 11);
    }

    private static void promise3Strain() {
        DUE.sentence("Promise 3: strain - 30,000 .. 30,000");
        int[] refused = {-30_001, 30_001, MIN, MAX};
        for (int strain : refused) {
            TWINS.refuses("strain " + strain, Sections::solved, x -> x.point(3, strain, 5));
        }
        int[] taken = {-30_000, -29_999, 29_999, 30_000};
        for (int strain : taken) {
            SectionFibres x = TWINS.heeds("strain " + strain, Sections::solved, y -> y.point(3, strain, 5));
            DUE.is("points with strain " + strain, x.count(5), 1);
            DUE.is("the stress there", x.row(3, strain), 5);
        }
    }

    private static void promise3AboveTheLastOne() {
        DUE.sentence("Promise 3: above the last one");
        TWINS.refuses("one below the last one", Sections::solved, x -> x.point(1, 9_999, 600_000));
        TWINS.refuses("the last one again", Sections::solved, x -> x.point(1, 10_000, 500_000));
        TWINS.refuses("the last one's strain", Sections::solved, x -> x.point(1, 10_000, 600_000));
        TWINS.refuses("between two points", Sections::solved, x -> x.point(1, -5_000, 600_000));
        TWINS.refuses("below the first", Sections::solved, x -> x.point(1, -30_000, 600_000));
        SectionFibres x = TWINS.heeds("one above the last one", Sections::solved, y -> y.point(1, 10_001, 600_000));
        DUE.is("points", x.count(3), 4);
        DUE.is("the stress at the one before", x.row(1, 10_000), 500_000);
        DUE.is("the stress there", x.row(1, 10_001), 600_000);
        SectionFibres end = Sections.empty();
        end.point(0, 30_000, 0);
        DUE.is("nothing is above 30,000", end.point(0, 30_000, 0), false);
        DUE.is("nor is 30,001", end.point(0, 30_001, 0), false);
    }

    private static void promise3Stress() {
        DUE.sentence("Promise 3: stress - 1,000,000 .. 1,000,000");
        int[] refused = {-1_000_001, 1_000_001, MIN, MAX};
        for (int stress : refused) {
            TWINS.refuses("stress " + stress, Sections::solved, x -> x.point(3, 0, stress));
        }
        int[] taken = {-1_000_000, -999_999, 999_999, 1_000_000};
        for (int stress : taken) {
            SectionFibres x = TWINS.heeds("stress " + stress, Sections::solved, y -> y.point(3, 0, stress));
            DUE.is("points with stress " + stress, x.count(5), 1);
            DUE.is("that stress", x.row(3, 0), stress);
        }
    }

    private static void promise3NotBelowTheLastOne() {
        DUE.sentence("Promise 3: not below it");
        TWINS.refuses("one below the last one's", Sections::solved, x -> x.point(1, 20_000, 499_999));
        TWINS.refuses("far below it", Sections::solved, x -> x.point(1, 20_000, -1_000_000));
        SectionFibres same = TWINS.heeds("the last one's", Sections::solved, x -> x.point(1, 20_000, 500_000));
        DUE.is("the stress there", same.row(1, 20_000), 500_000);
        SectionFibres more = TWINS.heeds("one above it", Sections::solved, x -> x.point(1, 20_000, 500_001));
        DUE.is("the stress there", more.row(1, 20_000), 500_001);
        SectionFibres end = Sections.empty();
        end.point(0, 0, 1_000_000);
        DUE.is("one below the highest", end.point(0, 1, 999_999), false);
        DUE.is("the highest again", end.point(0, 1, 1_000_000), true);
    }

    private static void promise3NoneSuch() {
        DUE.sentence("Promise 3: False: none such");
        int[] refused = {-1, 4, MIN, MAX};
        for (int kind : refused) {
            TWINS.refuses("kind " + kind, Sections::solved, x -> x.point(kind, 30_000, 1_000_000));
        }
        SectionFibres x = Sections.empty();
        DUE.is("kind 0", x.point(0, 0, 0), true);
        DUE.is("kind 3", x.point(3, 0, 0), true);
        DUE.is("count(2)", x.count(2), 1);
        DUE.is("count(5)", x.count(5), 1);
    }

    private static void promise3ThereAreEight() {
        DUE.sentence("Promise 3: False: .. there are 8");
        for (int k = 0; k <= 3; k++) {
            int kind = k;
            TWINS.refuses("a ninth of kind " + kind, Sections::fullRows, x -> x.point(kind, 30_000, 1_000_000));
            SectionFibres x = Sections.empty();
            for (int i = 0; i < 7; i++) {
                x.point(kind, i, i);
            }
            DUE.is("with 7 there is room for one, kind " + kind, x.point(kind, 7, 7), true);
            DUE.is("with 8 there is none, kind " + kind, x.point(kind, 8, 8), false);
            DUE.is("8 points of kind " + kind, x.count(2 + kind), 8);
            DUE.is("another kind has room, kind " + kind, x.point(3 - kind, 0, 0), true);
        }
    }

    private static void promise4Strain() {
        DUE.sentence("Promise 4: What a fibre was born with, - 30,000 .. 30,000");
        int[] refused = {-30_001, 30_001, MIN, MAX};
        for (int strain : refused) {
            TWINS.refuses("strain " + strain, Sections::solved, x -> x.born(1, strain));
        }
        int[][] taken = {{-30_000, 29_993}, {-29_999, 29_992}, {0, -7}, {29_990, -29_997}};
        for (int[] t : taken) {
            SectionFibres x = TWINS.heeds("strain " + t[0], TellingBoundsTest::oneSolved, y -> y.born(0, t[0]));
            DUE.is("what works then of - 7", x.of(-7, 0, 0), t[1]);
        }
        SectionFibres most = TWINS.heeds("strain 30000", TellingBoundsTest::oneSolved, x -> x.born(0, 30_000));
        DUE.is("what works then of 7", most.of(7, 0, 0), -29_993);
        DUE.is("another one in its place", most.born(0, 5), true);
        DUE.is("what works then of 7", most.of(7, 0, 0), 2);
    }

    private static void promise4NoneSuch() {
        DUE.sentence("Promise 4: False: none such");
        int[] refused = {-1, 4, 40, MIN, MAX};
        for (int fibre : refused) {
            TWINS.refuses("fibre " + fibre + " of 4", Sections::solved, x -> x.born(fibre, 9));
        }
        TWINS.refuses("fibre 40 of 40", Sections::full, x -> x.born(40, 9));
        TWINS.refuses("fibre 0 of none", Sections::empty, x -> x.born(0, 9));
        TWINS.heeds("fibre 39 of 40", Sections::full, x -> x.born(39, 9));
        for (int f = 0; f <= 3; f++) {
            int fibre = f;
            SectionFibres x = TWINS.heeds("fibre " + fibre + " of 4", TellingBoundsTest::fourSolved, y -> y.born(fibre, 9));
            DUE.is("what works then of 100 on all", x.of(100, 0, 0), 111_100 - 9L * TEN_TO[fibre]);
        }
    }

    private static void promise5Percent() {
        DUE.sentence("Promise 5: A kind's creep, 0 .. 500");
        int[] refused = {-1, -100, -101, 501, MIN, MAX};
        for (int percent : refused) {
            TWINS.refuses("creep " + percent, Sections::solved, x -> x.creeps(1, percent));
        }
        int[][] taken = {{0, 10_000}, {1, 9_900}, {499, 1_669}, {500, 1_666}};
        for (int[] t : taken) {
            SectionFibres x = TWINS.heeds("creep " + t[0], TellingBoundsTest::oneSolved, y -> y.creeps(0, t[0]));
            DUE.is("what works then of 10,000", x.of(10_000, 0, 0), t[1]);
            DUE.is("no creep in its place", x.creeps(0, 0), true);
            DUE.is("what works then of 10,000", x.of(10_000, 0, 0), 10_000);
        }
    }

    private static void promise5NoneSuch() {
        DUE.sentence("Promise 5: False: none such");
        int[] refused = {-1, 4, MIN, MAX};
        for (int kind : refused) {
            TWINS.refuses("kind " + kind, Sections::solved, x -> x.creeps(kind, 30));
        }
        for (int k = 0; k <= 3; k++) {
            int kind = k;
            SectionFibres x = TWINS.heeds("kind " + kind, TellingBoundsTest::fourSolved, y -> y.creeps(kind, 100));
            DUE.is("what works then of 100 on all", x.of(100, 0, 0), 111_100 - 50L * TEN_TO[kind]);
        }
    }

    private static void promise6Strain() {
        DUE.sentence("Promise 6: What a kind has shrunk, - 5,000 .. 5,000");
        int[] refused = {-5_001, 5_001, MIN, MAX};
        for (int strain : refused) {
            TWINS.refuses("strain " + strain, Sections::solved, x -> x.shrinks(0, strain));
        }
        int[][] taken = {{-5_000, 5_007}, {-4_999, 5_006}, {0, 7}, {4_999, -4_992}, {5_000, -4_993}};
        for (int[] t : taken) {
            SectionFibres x = TWINS.heeds("strain " + t[0], TellingBoundsTest::oneSolved, y -> y.shrinks(0, t[0]));
            DUE.is("what works then of 7", x.of(7, 0, 0), t[1]);
            DUE.is("another one in its place", x.shrinks(0, 4), true);
            DUE.is("what works then of 7", x.of(7, 0, 0), 3);
        }
    }

    private static void promise6NoneSuch() {
        DUE.sentence("Promise 6: False: none such");
        int[] refused = {-1, 4, MIN, MAX};
        for (int kind : refused) {
            TWINS.refuses("kind " + kind, Sections::solved, x -> x.shrinks(kind, 30));
        }
        for (int k = 0; k <= 3; k++) {
            int kind = k;
            SectionFibres x = TWINS.heeds("kind " + kind, TellingBoundsTest::fourSolved, y -> y.shrinks(kind, 9));
            DUE.is("what works then of 100 on all", x.of(100, 0, 0), 111_100 - 9L * TEN_TO[kind]);
        }
    }

    private static void promise7Percent() {
        DUE.sentence("Promise 7: What a fibre keeps, 0 .. 100");
        int[] refused = {-1, 101, MIN, MAX};
        for (int percent : refused) {
            TWINS.refuses("keeps " + percent, Sections::solved, x -> x.keeps(2, percent));
        }
        int[][] taken = {{0, 0}, {1, 10}, {99, 990}, {100, 1_000}};
        for (int[] t : taken) {
            SectionFibres x = TWINS.heeds("keeps " + t[0], TellingBoundsTest::oneSolved, y -> y.keeps(0, t[0]));
            DUE.is("the stress then of 1,000", x.of(1_000, 0, 0), t[1]);
            DUE.is("all of it in its place", x.keeps(0, 100), true);
            DUE.is("the stress then of 1,000", x.of(1_000, 0, 0), 1_000);
        }
    }

    private static void promise7NoneSuch() {
        DUE.sentence("Promise 7: False: none such");
        int[] refused = {-1, 4, 40, MIN, MAX};
        for (int fibre : refused) {
            TWINS.refuses("fibre " + fibre + " of 4", Sections::solved, x -> x.keeps(fibre, 9));
        }
        TWINS.refuses("fibre 40 of 40", Sections::full, x -> x.keeps(40, 9));
        TWINS.refuses("fibre 0 of none", Sections::empty, x -> x.keeps(0, 9));
        TWINS.heeds("fibre 39 of 40", Sections::full, x -> x.keeps(39, 9));
        for (int f = 0; f <= 3; f++) {
            int fibre = f;
            SectionFibres x = TWINS.heeds("fibre " + fibre + " of 4", TellingBoundsTest::fourSolved, y -> y.keeps(fibre, 9));
            DUE.is("the stress then of 100 on all", x.of(100, 0, 0), 111_100 - 91L * TEN_TO[fibre]);
        }
    }
}
