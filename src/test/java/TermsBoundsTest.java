/** Each sentence of the document's terms that names a bound, a rounding or a case that is none. */
final class TermsBoundsTest {
    private static final int BAD = Due.BAD;
    private static final int NONE_E = Due.NONE_E;
    private static final int MIN = Integer.MIN_VALUE;
    private static final int MAX = Integer.MAX_VALUE;

    private static final Due DUE = new Due();
    private static final Twins TWINS = new Twins(DUE);

    public static void main(String[] args) {
        fortyFibres();
        placesOfFibres();
        kindsOfFibres();
        eightPoints();
        strainsRising();
        stressesNotFalling();
        betweenTwoPoints();
        belowTheFirstPoint();
        aboveTheLastPoint();
        withoutPoints();
        beyondTheRow();
        neverBeyondWithoutPoints();
        strainRoundedDown();
        bornAtFirst();
        shrunkAtFirst();
        creepAtFirst();
        keptAtFirst();
        worksCutOff();
        stressCutOff();
        sumsOfAPlane();
        leastBalance();
        noBalance();
        middleRoundedDown();
        noBalanceWithMiddle();
        momentNotBelow();
        halvesAndDoesNotSearch();
        noBalanceInTheEnd();
        momentBelowInTheEnd();
        DUE.end("TermsBoundsTest");
    }

    private static void fortyFibres() {
        DUE.sentence("FIBRES 0, 1, .. (40 at most)");
        SectionFibres x = Sections.empty();
        for (int i = 0; i < 40; i++) {
            DUE.is("fibre " + i, x.fibre(1, 0, 0), i);
        }
        DUE.is("fibre 40", x.fibre(1, 0, 0), BAD);
        DUE.is("count(0)", x.count(0), 40);
        DUE.is("keeps(39, 5)", x.keeps(39, 5), true);
        DUE.is("keeps(40, 5)", x.keeps(40, 5), false);
        x.run(0, 0);
        DUE.is("in(39, 0)", x.in(39, 0), -20_000);
        DUE.throwsIndex("in(40, 0)", () -> x.in(40, 0));
    }

    private static void placesOfFibres() {
        DUE.sentence("lie AT a place (millimetres, from - 2,000 to 2,000)");
        DUE.is("a place of - 2,001", Sections.empty().fibre(1, -2_001, 0), BAD);
        DUE.is("a place of - 2,000", Sections.empty().fibre(1, -2_000, 0), 0);
        DUE.is("a place of 2,000", Sections.empty().fibre(1, 2_000, 0), 0);
        DUE.is("a place of 2,001", Sections.empty().fibre(1, 2_001, 0), BAD);
        DUE.is("the strain at - 2,000", Sections.one(-2_000).of(0, 3, 0), -6);
        DUE.is("the strain at 2,000", Sections.one(2_000).of(0, 3, 0), 6);
        DUE.is("the moment at - 2,000", Sections.one(-2_000).of(5, 0, 1), -10_000);
        DUE.is("the moment at 2,000", Sections.one(2_000).of(5, 0, 1), 10_000);
    }

    private static void kindsOfFibres() {
        DUE.sentence("and are of a KIND 0 .. 3");
        SectionFibres x = Sections.empty();
        for (int kind = 0; kind <= 3; kind++) {
            DUE.is("a point of kind " + kind, x.point(kind, 0, 10 + kind), true);
            DUE.is("the row of kind " + kind, x.row(kind, 0), 10 + kind);
            DUE.is("a fibre of kind " + kind, x.fibre(1, 0, kind), kind);
        }
        DUE.is("the force of all kinds", x.of(0, 0, 0), 10 + 11 + 12 + 13);
        DUE.is("a fibre of kind - 1", x.fibre(1, 0, -1), BAD);
        DUE.is("a fibre of kind 4", x.fibre(1, 0, 4), BAD);
    }

    private static void eightPoints() {
        DUE.sentence("THE ROW of a kind has up to 8 points");
        SectionFibres x = Sections.empty();
        for (int kind = 0; kind < 4; kind++) {
            for (int i = 0; i < 8; i++) {
                DUE.is("point " + i + " of kind " + kind, x.point(kind, 10 * i, 100 * kind + i * i), true);
            }
            DUE.is("point 8 of kind " + kind, x.point(kind, 80, 1_000), false);
        }
        for (int kind = 0; kind < 4; kind++) {
            for (int i = 0; i < 8; i++) {
                DUE.is("the stress at point " + i + " of kind " + kind, x.row(kind, 10 * i), 100 * kind + i * i);
            }
            DUE.is("above the last point of kind " + kind, x.row(kind, 80), 100 * kind + 49);
        }
    }

    private static void strainsRising() {
        DUE.sentence("strains rising");
        SectionFibres x = Sections.empty();
        x.point(2, -7, 0);
        DUE.is("a strain below the last one", x.point(2, -8, 50), false);
        DUE.is("the same strain", x.point(2, -7, 50), false);
        DUE.is("one strain above it", x.point(2, -6, 50), true);
        DUE.is("the same as the first", x.point(2, -7, 60), false);
        DUE.is("the same as the second", x.point(2, -6, 60), false);
        DUE.is("below another kind's", x.point(1, -8, 50), true);
    }

    private static void stressesNotFalling() {
        DUE.sentence("stresses not falling");
        SectionFibres x = Sections.empty();
        x.point(2, -7, -5);
        DUE.is("one stress below the last one", x.point(2, 0, -6), false);
        DUE.is("the same stress", x.point(2, 0, -5), true);
        DUE.is("one stress above it", x.point(2, 1, -4), true);
        DUE.is("the same as the second", x.point(2, 2, -5), false);
        DUE.is("below another kind's", x.point(1, 0, -6), true);
    }

    private static void betweenTwoPoints() {
        DUE.sentence("lies on the straight line between them, the difference to the first of both cut off");
        SectionFibres x = Sections.empty();
        x.point(0, -7, -100);
        x.point(0, 0, -50);
        x.point(0, 3, -49);
        x.point(0, 4, 20);
        x.point(0, 10, 20);
        x.point(0, 20, 39);
        int[][] due = {
            {-7, -100}, {-6, -93}, {-5, -86}, {-2, -65}, {-1, -58}, {0, -50}, {1, -50}, {2, -50}, {3, -49},
            {4, 20}, {5, 20}, {9, 20}, {10, 20}, {11, 21}, {12, 23}, {19, 37}, {20, 39},
        };
        for (int[] d : due) {
            DUE.is("row(0, " + d[0] + ")", x.row(0, d[0]), d[1]);
        }
        x.point(1, -30_000, -1_000_000);
        x.point(1, 30_000, 1_000_000);
        DUE.is("one above the lowest of all points", x.row(1, -29_999), -1_000_000 + 33);
        DUE.is("one below the highest of all points", x.row(1, 29_999), -1_000_000 + 1_999_966);
    }

    private static void belowTheFirstPoint() {
        DUE.sentence("below the first point it is that one's");
        SectionFibres x = Sections.empty();
        x.point(0, -30, 7);
        x.point(0, -20, 1_007);
        int[][] due = {{MIN, 7}, {-31, 7}, {-30, 7}, {-29, 107}};
        for (int[] d : due) {
            DUE.is("row(0, " + d[0] + ")", x.row(0, d[0]), d[1]);
        }
        x.point(1, 5, -9);
        DUE.is("one point alone, row(1, 4)", x.row(1, 4), -9);
        DUE.is("one point alone, row(1, MIN)", x.row(1, MIN), -9);
    }

    private static void aboveTheLastPoint() {
        DUE.sentence("above the last one that one's");
        SectionFibres x = Sections.empty();
        x.point(0, 20, 7);
        x.point(0, 30, 1_007);
        int[][] due = {{29, 907}, {30, 1_007}, {31, 1_007}, {MAX, 1_007}};
        for (int[] d : due) {
            DUE.is("row(0, " + d[0] + ")", x.row(0, d[0]), d[1]);
        }
        x.point(1, 5, -9);
        DUE.is("one point alone, row(1, 5)", x.row(1, 5), -9);
        DUE.is("one point alone, row(1, 6)", x.row(1, 6), -9);
        DUE.is("one point alone, row(1, MAX)", x.row(1, MAX), -9);
    }

    private static void withoutPoints() {
        DUE.sentence("without points 0");
        SectionFibres x = Sections.empty();
        x.point(1, 0, 55);
        int[] bare = {0, 2, 3};
        for (int kind : bare) {
            DUE.is("row(" + kind + ", MIN)", x.row(kind, MIN), 0);
            DUE.is("row(" + kind + ", 0)", x.row(kind, 0), 0);
            DUE.is("row(" + kind + ", MAX)", x.row(kind, MAX), 0);
            x.fibre(100_000, 1_000, kind);
        }
        DUE.is("the force of fibres without points", x.of(20_000, 20_000, 0), 0);
        DUE.is("the moment of fibres without points", x.of(20_000, 20_000, 1), 0);
    }

    /** A fibre of 10 that leads E to where a force is ten times it, and one of no area that is watched. */
    private static SectionFibres watched(int kind) {
        SectionFibres x = Sections.single();
        x.fibre(0, 0, kind);
        return x;
    }

    private static void beyond(String call, SectionFibres x, int e, boolean want) {
        DUE.is(call + ", run to " + e, x.run(10L * e, 0), 0);
        DUE.is(call + ", told(0)", x.told(0), e);
        DUE.is(call + ", told(2) at " + e, x.told(2), want ? 1 : BAD);
        DUE.is(call + ", last at " + e, x.last(10L * e, 1), want ? 0 : BAD);
    }

    private static void beyondTheRow() {
        DUE.sentence("A strain is BEYOND the row if it is below the first or above the last one");
        SectionFibres x = watched(1);
        x.point(1, -5, 0);
        beyond("one point", x, -6, true);
        beyond("one point", x, -5, false);
        beyond("one point", x, -4, true);
        x.point(1, 2, 0);
        x.point(1, 9, 0);
        beyond("three points", x, -6, true);
        beyond("three points", x, -5, false);
        beyond("three points", x, 5, false);
        beyond("three points", x, 9, false);
        beyond("three points", x, 10, true);
    }

    private static void neverBeyondWithoutPoints() {
        DUE.sentence("(never without points)");
        SectionFibres x = watched(3);
        beyond("no points", x, -20_000, false);
        beyond("no points", x, 0, false);
        beyond("no points", x, 20_000, false);
        x.point(3, 0, 0);
        beyond("a point", x, 20_000, true);
    }

    private static void strainRoundedDown() {
        DUE.sentence("the strain at a fibre is E and K times its place by 1,000, rounded down");
        int[][] due = {
            {1, 0, 999, 0}, {1, 0, 1_000, 1}, {1, 0, 1_001, 1}, {1, 0, -1, -1}, {1, 0, -999, -1}, {1, 0, -1_000, -1},
            {1, 0, -1_001, -2}, {1, 5, -1, 4}, {1, -5, 1, -5}, {1, -5, -1, -6}, {-1, 0, 1, -1}, {-1, 0, -1, 0},
            {-1, 0, -1_000, 1}, {0, 7, -1, 7}, {0, 7, 20_000, 7}, {2_000, -20_000, 20_000, 20_000},
            {-2_000, 20_000, 20_000, -20_000}, {1_999, -20_000, 19_999, 19_978}, {-1_999, 20_000, 19_999, -19_979},
        };
        for (int[] d : due) {
            DUE.is("at " + d[0] + ", of(" + d[1] + ", " + d[2] + ", 0)", Sections.one(d[0]).of(d[1], d[2], 0), d[3]);
        }
    }

    private static void bornAtFirst() {
        DUE.sentence("less what the fibre was BORN with (0 at first)");
        SectionFibres x = Sections.one(0);
        DUE.is("at first", x.of(9, 0, 0), 9);
        x.born(0, 4);
        DUE.is("of a fibre that was born with 4", x.of(9, 0, 0), 5);
        x.fibre(100, 0, 0);
        DUE.is("of the next one at first", x.of(9, 0, 0), 5 + 900);
    }

    private static void shrunkAtFirst() {
        DUE.sentence("less what its kind has SHRUNK (0)");
        SectionFibres x = Sections.one(0);
        DUE.is("at first", x.of(9, 0, 0), 9);
        x.shrinks(0, 4);
        x.fibre(100, 0, 0);
        DUE.is("of all fibres of a kind that has shrunk 4", x.of(9, 0, 0), 5 + 500);
        x.born(0, 2);
        DUE.is("with what one was born with", x.of(9, 0, 0), 3 + 500);
    }

    private static void creepAtFirst() {
        DUE.sentence("that by 100 and the kind's CREEP (0), times 100");
        SectionFibres x = Sections.one(0);
        DUE.is("at first", x.of(900, 0, 0), 900);
        x.creeps(0, 50);
        x.fibre(1_000, 0, 0);
        DUE.is("of all fibres of a kind that creeps by 50", x.of(900, 0, 0), 600 + 600_000);
        x.creeps(0, 500);
        DUE.is("of all fibres of a kind that creeps by 500", x.of(900, 0, 0), 150 + 150_000);
    }

    private static void keptAtFirst() {
        DUE.sentence("times its KEPT hundredths (100 at first)");
        SectionFibres x = Sections.one(0);
        DUE.is("at first", x.of(900, 0, 0), 900);
        x.keeps(0, 40);
        DUE.is("of a fibre that keeps 40", x.of(900, 0, 0), 360);
        x.fibre(1_000, 0, 0);
        DUE.is("of the next one at first", x.of(900, 0, 0), 360 + 900_000);
    }

    private static void worksCutOff() {
        DUE.sentence("What WORKS of it is .. cut off towards 0");
        SectionFibres x = Sections.empty();
        x.point(0, -30_000, -300_000);
        x.point(0, 30_000, 300_000);
        x.fibre(1, 0, 0);
        x.creeps(0, 100);
        int[][] due = {
            {-5, -20}, {-4, -20}, {-3, -10}, {-2, -10}, {-1, 0}, {0, 0}, {1, 0}, {2, 10}, {3, 10}, {4, 20}, {5, 20},
        };
        for (int[] d : due) {
            DUE.is("half of it, of(" + d[0] + ", 0, 0)", x.of(d[0], 0, 0), d[1]);
        }
        x.born(0, 4);
        x.shrinks(0, 3);
        DUE.is("less 7 before it is halved, of(10, 0, 0)", x.of(10, 0, 0), 10);
        DUE.is("less 7 before it is halved, of(4, 0, 0)", x.of(4, 0, 0), -10);
    }

    private static void stressCutOff() {
        DUE.sentence("A fibre's stress is .. by 100, cut off towards 0");
        SectionFibres x = Sections.one(0);
        x.keeps(0, 50);
        int[][] due = {{-3, -1}, {-2, -1}, {-1, 0}, {0, 0}, {1, 0}, {2, 1}, {3, 1}};
        for (int[] d : due) {
            DUE.is("half of it, of(" + d[0] + ", 0, 0)", x.of(d[0], 0, 0), d[1]);
        }
        x.keeps(0, 99);
        DUE.is("of(1, 0, 0)", x.of(1, 0, 0), 0);
        DUE.is("of(-1, 0, 0)", x.of(-1, 0, 0), 0);
        DUE.is("of(200, 0, 0)", x.of(200, 0, 0), 198);
        DUE.is("of(-201, 0, 0)", x.of(-201, 0, 0), -198);
        x.fibre(1_000, 0, 0);
        x.keeps(1, 50);
        DUE.is("each fibre's own, not the sum's", x.of(1, 0, 0), 0);
    }

    private static void sumsOfAPlane() {
        DUE.sentence("FORCE is the sum of areas times stresses, MOMENT that of areas times stresses times places");
        SectionFibres x = Sections.straight(30_000);
        DUE.is("the force of no fibres", x.of(5, 0, 0), 0);
        DUE.is("the moment of no fibres", x.of(5, 0, 1), 0);
        x.fibre(0, 2_000, 0);
        DUE.is("the force of no area", x.of(5, 0, 0), 0);
        DUE.is("the moment of no area", x.of(5, 0, 1), 0);
        x.fibre(3, -7, 0);
        x.fibre(4, 9, 0);
        DUE.is("the force of three fibres", x.of(5, 0, 0), 15 + 20);
        DUE.is("the moment of three fibres", x.of(5, 0, 1), -105 + 180);
        SectionFibres most = Sections.empty();
        most.point(0, 0, -1_000_000);
        most.point(1, 0, 1_000_000);
        for (int i = 0; i < 40; i++) {
            most.fibre(100_000, i < 20 ? -2_000 : 2_000, i < 20 ? 0 : 1);
        }
        DUE.is("the force of all together", most.of(0, 0, 0), 0);
        DUE.is("the highest moment", most.of(0, 0, 1), 8_000_000_000_000_000L);
    }

    private static void leastBalance() {
        DUE.sentence("the least E from - 20,000 to 20,000 for which FORCE is not below it");
        SectionFibres x = Sections.single();
        DUE.is("FORCE is it", x.balance(30, 0), 3);
        DUE.is("FORCE is more than it", x.balance(29, 0), 3);
        DUE.is("FORCE with 3 is below it", x.balance(31, 0), 4);
        DUE.is("the least of all E", x.balance(-200_000, 0), -20_000);
        DUE.is("one more than with the least E", x.balance(-199_999, 0), -19_999);
        DUE.is("more than enough with the least E", x.balance(-200_001, 0), -20_000);
        DUE.is("the lowest force", x.balance(Long.MIN_VALUE, 0), -20_000);
        SectionFibres flat = Sections.empty();
        flat.point(0, 100, 0);
        flat.point(0, 101, 10);
        flat.point(0, 900, 10);
        flat.fibre(1, 0, 0);
        DUE.is("the least where many are equal", flat.balance(10, 0), 101);
        DUE.is("the least where a step is enough", flat.balance(1, 0), 101);
        DUE.is("the least where all are enough", flat.balance(0, 0), -20_000);
    }

    private static void noBalance() {
        DUE.sentence("there is none if it is below it with 20,000");
        SectionFibres x = Sections.single();
        DUE.is("just with 20,000", x.balance(200_000, 0), 20_000);
        DUE.is("more than with 19,999", x.balance(199_991, 0), 20_000);
        DUE.is("below it with 20,000", x.balance(200_001, 0), NONE_E);
        DUE.is("the highest force", x.balance(Long.MAX_VALUE, 0), NONE_E);
        DUE.is("no fibres, force 0", Sections.empty().balance(0, 0), -20_000);
        DUE.is("no fibres, force 1", Sections.empty().balance(1, 0), NONE_E);
    }

    private static void solves(SectionFibres x, long force, long moment, int e, int k) {
        String call = "run(" + force + ", " + moment + ")";
        DUE.is(call, x.run(force, moment), 0);
        DUE.is(call + ", told(0)", x.told(0), e);
        DUE.is(call + ", told(1)", x.told(1), k);
    }

    private static void middleRoundedDown() {
        DUE.sentence("As long as low is below high: middle is both together by 2, rounded down");
        SectionFibres x = Sections.pair(30_000);
        int[] bends = {-20_000, -19_999, -19_998, -3, -2, -1, 0, 1, 2, 19_998, 19_999, 20_000};
        for (int k : bends) {
            solves(x, 0, 2_000L * k, 0, k);
        }
    }

    /** Only a bend stretches a fibre far enough: with 0, the first middle, there is no balance. */
    private static void noBalanceWithMiddle() {
        DUE.sentence("if there is no balance of the force with middle it can't be");
        SectionFibres x = Sections.empty();
        x.point(0, 20_000, 0);
        x.point(0, 20_001, 100);
        x.fibre(1, 1_000, 0);
        DUE.is("no balance without a bend", x.balance(100, 0), NONE_E);
        DUE.is("a balance with a bend of 1", x.balance(100, 1), 20_000);
        DUE.is("the moment with a bend of 1", x.of(20_000, 1, 1), 100_000);
        DUE.is("run(100, 100000)", x.run(100, 100_000), 1);
        DUE.is("run(100, MIN)", x.run(100, Long.MIN_VALUE), 1);
        DUE.is("run(100, MAX)", x.run(100, Long.MAX_VALUE), 1);
        DUE.is("run(0, 0)", x.run(0, 0), 0);
    }

    private static void momentNotBelow() {
        DUE.sentence("is not below the moment, high becomes middle, else low becomes middle and 1");
        SectionFibres x = Sections.pair(30_000);
        solves(x, 0, 0, 0, 0);
        solves(x, 0, 1, 0, 1);
        solves(x, 0, -1, 0, 0);
        solves(x, 0, -2_000, 0, -1);
        solves(x, 0, -1_999, 0, 0);
        solves(x, 0, 20_000_000, 0, 10_000);
        solves(x, 0, 20_000_001, 0, 10_001);
        solves(x, 5, -20_000_000, 3, -10_000);
        solves(x, -5, -19_999_999, -2, -9_999);
        solves(x, 0, Long.MIN_VALUE, 0, -20_000);
    }

    /**
     * With the least bends the fibre at - 1,000 carries the force, with higher ones that at - 500,
     * which is too strong: MOMENT falls, and halving does not come where it would be high enough.
     */
    private static void halvesAndDoesNotSearch() {
        DUE.sentence("TO SOLVE a force and a moment: low is - 20,000, high 20,000");
        SectionFibres x = Sections.empty();
        x.point(0, -1, 0);
        x.point(0, 0, 100);
        x.point(1, -5_001, 0);
        x.point(1, -5_000, 1_000);
        x.fibre(1, -1_000, 0);
        x.fibre(1, -500, 1);
        DUE.is("the balance with - 20,000", x.balance(100, -20_000), -20_000);
        DUE.is("its moment", x.of(-20_000, -20_000, 1), -100_000);
        DUE.is("the balance with 0", x.balance(100, 0), -5_000);
        DUE.is("its moment", x.of(-5_000, 0, 1), -500_000);
        DUE.is("run(100, -100000) with MOMENT below it at 0", x.run(100, -100_000), 2);
        DUE.is("both carry it with - 10,000", x.of(x.balance(100, -10_000), -10_000, 1), -600_000);
        solves(x, 100, -500_000, -9_999, -9_998);
        solves(x, 100, -600_000, -20_000, -20_000);
    }

    /** With 20,000, the only bend that is never a middle, one fibre is at its row's end: no balance. */
    private static void noBalanceInTheEnd() {
        DUE.sentence("In the end K is low, E its balance (it can't be if there is none)");
        SectionFibres x = Sections.pair(30_000);
        DUE.is("with 19,999 there is a balance", x.balance(30_001, 19_999), 20_000);
        DUE.is("with 20,000 there is none", x.balance(30_001, 20_000), NONE_E);
        DUE.is("the moment with 19,999", x.of(20_000, 19_999, 1), 29_999_000);
        DUE.is("run(30001, 29999001)", x.run(30_001, 29_999_001), 1);
        solves(x, 30_001, 29_999_000, 15_001, 15_000);
        solves(x, 0, 40_000_000, 0, 20_000);
    }

    private static void momentBelowInTheEnd() {
        DUE.sentence("it can't be if its MOMENT is below the moment");
        SectionFibres x = Sections.pair(30_000);
        DUE.is("MOMENT is it", x.run(0, 40_000_000), 0);
        DUE.is("MOMENT is one below it", x.run(0, 40_000_001), 2);
        DUE.is("the highest moment", x.run(0, Long.MAX_VALUE), 2);
        DUE.is("no fibres, moment 0", Sections.empty().run(0, 0), 0);
        DUE.is("no fibres, moment 1", Sections.empty().run(0, 1), 2);
        TWINS.answers("MOMENT is below it, without a plane", Sections::mixed, 2, y -> y.run(0, Long.MAX_VALUE));
    }
}
