/** Each promise with answers worked out by hand: ordinary inputs, the edges, and wrong inputs. */
final class PromisesTest {
    private static final int BAD = Due.BAD;
    private static final int NONE_E = Due.NONE_E;
    private static final long NONE = Due.NONE;
    private static final int MIN = Integer.MIN_VALUE;
    private static final int MAX = Integer.MAX_VALUE;

    private static final Due DUE = new Due();

    public static void main(String[] args) {
        promise1New();
        promise2Fibre();
        promise3Point();
        promise4Born();
        promise5Creeps();
        promise6Shrinks();
        promise7Keeps();
        promise8Row();
        promise9Of();
        promise10Balance();
        promise11Run();
        promise12Told();
        promise13Residual();
        promise14In();
        promise15Curve();
        promise16Last();
        promise17Needed();
        promise18Count();
        whatRefusesKeepsThePlane();
        whatIsToldTakesThePlane();
        DUE.end("PromisesTest");
    }

    private static void promise1New() {
        SectionFibres x = new SectionFibres();
        DUE.is("1 BAD", SectionFibres.BAD, BAD);
        for (int what = 0; what <= 5; what++) {
            DUE.is("1 count(" + what + ")", x.count(what), 0);
        }
        for (int what = 0; what <= 2; what++) {
            DUE.is("1 told(" + what + ")", x.told(what), BAD);
        }
        for (int kind = 0; kind <= 3; kind++) {
            DUE.is("1 row(" + kind + ", 7)", x.row(kind, 7), 0);
        }
        DUE.is("1 residual(0)", x.residual(0), NONE);
        DUE.is("1 residual(1)", x.residual(1), NONE);
        DUE.is("1 of(5, 5, 0)", x.of(5, 5, 0), 0);
        DUE.is("1 of(5, 5, 1)", x.of(5, 5, 1), 0);
        DUE.throwsIndex("1 in(0, 0)", () -> x.in(0, 0));
        SectionFibres other = Sections.single();
        DUE.is("1 another object's fibre", x.count(0), 0);
        DUE.is("1 the other object's fibre", other.count(0), 1);
    }

    private static void promise2Fibre() {
        SectionFibres x = new SectionFibres();
        int[][] wrong = {
            {-1, 0, 0}, {100_001, 0, 0}, {1, -2_001, 0}, {1, 2_001, 0}, {1, 0, -1}, {1, 0, 4},
            {MIN, 0, 0}, {MAX, 0, 0}, {1, MIN, 0}, {1, MAX, 0}, {1, 0, MIN}, {1, 0, MAX},
        };
        for (int[] w : wrong) {
            DUE.is("2 fibre(" + w[0] + ", " + w[1] + ", " + w[2] + ")", x.fibre(w[0], w[1], w[2]), BAD);
        }
        DUE.is("2 count(0) after refusals", x.count(0), 0);
        DUE.is("2 fibre(0, -2000, 0)", x.fibre(0, -2_000, 0), 0);
        DUE.is("2 fibre(100000, 2000, 3)", x.fibre(100_000, 2_000, 3), 1);
        for (int i = 2; i < 40; i++) {
            DUE.is("2 fibre " + i, x.fibre(1, 0, i % 4), i);
        }
        DUE.is("2 fibre 40", x.fibre(1, 0, 0), BAD);
        DUE.is("2 count(0) when full", x.count(0), 40);
        DUE.is("2 count(1) when full", x.count(1), 100_038);
    }

    private static void promise3Point() {
        SectionFibres x = new SectionFibres();
        int[][] wrong = {
            {-1, 0, 0}, {4, 0, 0}, {0, -30_001, 0}, {0, 30_001, 0}, {0, 0, -1_000_001}, {0, 0, 1_000_001},
            {MIN, 0, 0}, {MAX, 0, 0}, {0, MIN, 0}, {0, MAX, 0}, {0, 0, MIN}, {0, 0, MAX},
        };
        for (int[] w : wrong) {
            DUE.is("3 point(" + w[0] + ", " + w[1] + ", " + w[2] + ")", x.point(w[0], w[1], w[2]), false);
        }
        DUE.is("3 count(2) after refusals", x.count(2), 0);
        DUE.is("3 the lowest point", x.point(0, -30_000, -1_000_000), true);
        DUE.is("3 the same strain", x.point(0, -30_000, 5), false);
        DUE.is("3 a lower stress", x.point(0, 0, -1_000_001), false);
        DUE.is("3 one strain more, the same stress", x.point(0, -29_999, -1_000_000), true);
        DUE.is("3 a higher one", x.point(0, 0, 5), true);
        DUE.is("3 a stress one lower", x.point(0, 1, 4), false);
        DUE.is("3 a strain one lower", x.point(0, -1, 6), false);
        DUE.is("3 the highest point", x.point(0, 30_000, 1_000_000), true);
        DUE.is("3 count(2)", x.count(2), 4);
        DUE.is("3 the other kinds stay empty", x.count(3) + x.count(4) + x.count(5), 0);
        for (int i = 0; i < 8; i++) {
            DUE.is("3 point " + i + " of kind 3", x.point(3, i, i), true);
        }
        DUE.is("3 point 8 of kind 3", x.point(3, 8, 8), false);
        DUE.is("3 count(5)", x.count(5), 8);
        DUE.is("3 row(3, 100) after the refusal", x.row(3, 100), 7);
    }

    private static void promise4Born() {
        SectionFibres x = Sections.single();
        x.fibre(1, 0, 0);
        DUE.is("4 born(-1, 0)", x.born(-1, 0), false);
        DUE.is("4 born(2, 0)", x.born(2, 0), false);
        DUE.is("4 born(MIN, 0)", x.born(MIN, 0), false);
        DUE.is("4 born(MAX, 0)", x.born(MAX, 0), false);
        DUE.is("4 born(0, -30001)", x.born(0, -30_001), false);
        DUE.is("4 born(0, 30001)", x.born(0, 30_001), false);
        DUE.is("4 born(0, MAX)", x.born(0, MAX), false);
        DUE.is("4 of after refusals", x.of(3, 0, 0), 33);
        DUE.is("4 born(0, 5)", x.born(0, 5), true);
        DUE.is("4 of(3, 0, 0)", x.of(3, 0, 0), -20 + 3);
        DUE.is("4 born(0, 30000)", x.born(0, 30_000), true);
        DUE.is("4 born in place of what was", x.of(1, 0, 0), -299_990 + 1);
        DUE.is("4 born(0, -30000)", x.born(0, -30_000), true);
        DUE.is("4 of(-1, 0, 0)", x.of(-1, 0, 0), 299_990 - 1);
    }

    private static void promise5Creeps() {
        SectionFibres x = Sections.single();
        DUE.is("5 creeps(-1, 0)", x.creeps(-1, 0), false);
        DUE.is("5 creeps(4, 0)", x.creeps(4, 0), false);
        DUE.is("5 creeps(MIN, 0)", x.creeps(MIN, 0), false);
        DUE.is("5 creeps(MAX, 0)", x.creeps(MAX, 0), false);
        DUE.is("5 creeps(0, -1)", x.creeps(0, -1), false);
        DUE.is("5 creeps(0, -100)", x.creeps(0, -100), false);
        DUE.is("5 creeps(0, 501)", x.creeps(0, 501), false);
        DUE.is("5 of after refusals", x.of(100, 0, 0), 1_000);
        DUE.is("5 creeps(3, 500)", x.creeps(3, 500), true);
        DUE.is("5 another kind's creep", x.of(100, 0, 0), 1_000);
        DUE.is("5 creeps(0, 200)", x.creeps(0, 200), true);
        DUE.is("5 of(100, 0, 0)", x.of(100, 0, 0), 330);
        DUE.is("5 cut off towards 0", x.of(-101, 0, 0), -330);
        DUE.is("5 creeps(0, 500)", x.creeps(0, 500), true);
        DUE.is("5 in place of what was", x.of(-11, 0, 0), -10);
        DUE.is("5 the whole strain of a born fibre", x.born(0, 60), true);
        DUE.is("5 of(0, 0, 0) of a born fibre", x.of(0, 0, 0), -100);
        DUE.is("5 creeps(0, 0)", x.creeps(0, 0), true);
        DUE.is("5 without creep", x.of(0, 0, 0), -600);
    }

    private static void promise6Shrinks() {
        SectionFibres x = Sections.single();
        DUE.is("6 shrinks(-1, 0)", x.shrinks(-1, 0), false);
        DUE.is("6 shrinks(4, 0)", x.shrinks(4, 0), false);
        DUE.is("6 shrinks(MIN, 0)", x.shrinks(MIN, 0), false);
        DUE.is("6 shrinks(MAX, 0)", x.shrinks(MAX, 0), false);
        DUE.is("6 shrinks(0, -5001)", x.shrinks(0, -5_001), false);
        DUE.is("6 shrinks(0, 5001)", x.shrinks(0, 5_001), false);
        DUE.is("6 of after refusals", x.of(7, 0, 0), 70);
        DUE.is("6 shrinks(3, 5000)", x.shrinks(3, 5_000), true);
        DUE.is("6 another kind's shrinking", x.of(7, 0, 0), 70);
        DUE.is("6 shrinks(0, 5000)", x.shrinks(0, 5_000), true);
        DUE.is("6 of(7, 0, 0)", x.of(7, 0, 0), -49_930);
        DUE.is("6 shrinks(0, -5000)", x.shrinks(0, -5_000), true);
        DUE.is("6 in place of what was", x.of(7, 0, 0), 50_070);
        DUE.is("6 shrinks(0, -300)", x.shrinks(0, -300), true);
        x.creeps(0, 200);
        DUE.is("6 shrinking comes before creep", x.of(0, 0, 0), 1_000);
    }

    private static void promise7Keeps() {
        SectionFibres x = Sections.single();
        DUE.is("7 keeps(-1, 0)", x.keeps(-1, 0), false);
        DUE.is("7 keeps(1, 0)", x.keeps(1, 0), false);
        DUE.is("7 keeps(MIN, 0)", x.keeps(MIN, 0), false);
        DUE.is("7 keeps(MAX, 0)", x.keeps(MAX, 0), false);
        DUE.is("7 keeps(0, -1)", x.keeps(0, -1), false);
        DUE.is("7 keeps(0, 101)", x.keeps(0, 101), false);
        DUE.is("7 of after refusals", x.of(33, 0, 0), 330);
        DUE.is("7 keeps(0, 50)", x.keeps(0, 50), true);
        DUE.is("7 of(33, 0, 0)", x.of(33, 0, 0), 160);
        DUE.is("7 cut off towards 0", x.of(-33, 0, 0), -160);
        DUE.is("7 keeps(0, 0)", x.keeps(0, 0), true);
        DUE.is("7 nothing kept", x.of(33, 0, 0), 0);
        DUE.is("7 keeps(0, 100)", x.keeps(0, 100), true);
        DUE.is("7 all kept", x.of(33, 0, 0), 330);
    }

    private static void promise8Row() {
        SectionFibres x = new SectionFibres();
        DUE.throwsIndex("8 row(-1, 0)", () -> x.row(-1, 0));
        DUE.throwsIndex("8 row(4, 0)", () -> x.row(4, 0));
        DUE.throwsIndex("8 row(MIN, 0)", () -> x.row(MIN, 0));
        DUE.throwsIndex("8 row(MAX, 0)", () -> x.row(MAX, 0));
        DUE.is("8 without points", x.row(0, MAX), 0);
        x.point(0, 5, 7);
        int[] strains = {MIN, 4, 5, 6, MAX};
        for (int strain : strains) {
            DUE.is("8 one point, row(0, " + strain + ")", x.row(0, strain), 7);
        }
        x.point(1, 0, -10);
        x.point(1, 3, -9);
        x.point(1, 4, 20);
        x.point(1, 10, 20);
        x.point(1, 20, 39);
        int[][] due = {
            {MIN, -10}, {-1, -10}, {0, -10}, {1, -10}, {2, -10}, {3, -9}, {4, 20}, {5, 20}, {10, 20},
            {11, 21}, {15, 29}, {19, 37}, {20, 39}, {21, 39}, {MAX, 39},
        };
        for (int[] d : due) {
            DUE.is("8 row(1, " + d[0] + ")", x.row(1, d[0]), d[1]);
        }
        x.point(3, -30_000, -1_000_000);
        x.point(3, 30_000, 1_000_000);
        DUE.is("8 the widest line", x.row(3, 29_999), 999_966);
        x.creeps(1, 100);
        x.shrinks(1, 100);
        DUE.is("8 a row knows no creep or shrinking", x.row(1, 15), 29);
    }

    private static void promise9Of() {
        SectionFibres x = Sections.straight(30_000);
        x.fibre(2, -1, 0);
        DUE.is("9 of(0, 1, 0) rounded down", x.of(0, 1, 0), -2);
        DUE.is("9 of(0, 1, 1) rounded down", x.of(0, 1, 1), 2);
        DUE.is("9 of(0, -1, 0) rounded down", x.of(0, -1, 0), 0);
        DUE.is("9 of(0, -1999, 0) rounded down", x.of(0, -1_999, 0), 2);
        DUE.is("9 of(0, 1001, 0) rounded down", x.of(0, 1_001, 0), -4);
        DUE.is("9 of(20000, 20000, 0)", x.of(20_000, 20_000, 0), 39_960);
        DUE.is("9 of(-20000, -20000, 1)", x.of(-20_000, -20_000, 1), 39_960);
        int[][] wrong = {
            {-20_001, 0, 0}, {20_001, 0, 0}, {0, -20_001, 0}, {0, 20_001, 0}, {0, 0, -1}, {0, 0, 2},
            {MIN, 0, 1}, {MAX, 0, 1}, {0, MIN, 1}, {0, MAX, 1}, {0, 0, MIN}, {0, 0, MAX},
        };
        for (int[] w : wrong) {
            DUE.is("9 of(" + w[0] + ", " + w[1] + ", " + w[2] + ")", x.of(w[0], w[1], w[2]), NONE);
        }
        SectionFibres most = new SectionFibres();
        most.point(2, 0, 1_000_000);
        for (int i = 0; i < 40; i++) {
            most.fibre(100_000, 2_000, 2);
        }
        DUE.is("9 the highest FORCE", most.of(0, 0, 0), 4_000_000_000_000L);
        DUE.is("9 the highest MOMENT", most.of(0, 0, 1), 8_000_000_000_000_000L);
        SectionFibres two = Sections.pair(30_000);
        two.fibre(3, 500, 1);
        two.point(1, -30_000, -60_000);
        two.point(1, 30_000, 60_000);
        DUE.is("9 of(10, 4, 0) of kinds 0, 0, 1", two.of(10, 4, 0), 6 + 14 + 72);
        DUE.is("9 of(10, 4, 1) of kinds 0, 0, 1", two.of(10, 4, 1), -6_000 + 14_000 + 36_000);
    }

    private static void promise10Balance() {
        SectionFibres x = Sections.single();
        long[][] due = {
            {-50, -5}, {-49, -4}, {-1, 0}, {0, 0}, {1, 1}, {10, 1}, {11, 2}, {200_000, 20_000}, {200_001, NONE_E},
            {-200_000, -20_000}, {-199_991, -19_999}, {-200_001, -20_000}, {Long.MIN_VALUE, -20_000}, {Long.MAX_VALUE, NONE_E},
        };
        for (long[] d : due) {
            DUE.is("10 balance(" + d[0] + ", 0)", x.balance(d[0], 0), d[1]);
        }
        DUE.is("10 balance(30, -20000)", x.balance(30, -20_000), 3);
        DUE.is("10 balance(30, 20000)", x.balance(30, 20_000), 3);
        DUE.is("10 balance(30, -20001)", x.balance(30, -20_001), NONE_E);
        DUE.is("10 balance(30, 20001)", x.balance(30, 20_001), NONE_E);
        DUE.is("10 balance(30, MIN)", x.balance(30, MIN), NONE_E);
        DUE.is("10 balance(30, MAX)", x.balance(30, MAX), NONE_E);
        SectionFibres flat = new SectionFibres();
        flat.point(0, 0, 0);
        flat.point(0, 100, 10);
        flat.point(0, 200, 10);
        flat.fibre(1, 0, 0);
        DUE.is("10 the least of many", flat.balance(10, 0), 100);
        DUE.is("10 all are enough", flat.balance(0, 0), -20_000);
        DUE.is("10 above a row's end", flat.balance(11, 0), NONE_E);
        DUE.is("10 told(0): no plane came to hand", flat.told(0), BAD);
    }

    private static void promise11Run() {
        SectionFibres x = Sections.pair(30_000);
        solved(x, 0, 14_000, 0, 7);
        solved(x, 0, 13_999, 0, 7);
        solved(x, 0, 14_001, 0, 8);
        solved(x, 3, 14_000, 2, 7);
        solved(x, -3, -13_999, -1, -6);
        solved(x, 40_000, 0, 20_000, 0);
        solved(x, 0, 40_000_000, 0, 20_000);
        solved(x, 0, Long.MIN_VALUE, 0, -20_000);
        DUE.is("11 the moment is one too high", x.run(0, 40_000_001), 2);
        DUE.is("11 the moment is the highest", x.run(0, Long.MAX_VALUE), 2);
        DUE.is("11 the force is one too high", x.run(40_001, 0), 1);
        DUE.is("11 the force is the highest", x.run(Long.MAX_VALUE, 0), 1);
        DUE.is("11 no balance on the way", x.run(40_000, 40_000_000), 1);
        DUE.is("11 no balance in the end", x.run(30_001, 40_000_000), 1);
        DUE.is("11 told(0) stays", x.told(0), 0);
        DUE.is("11 told(1) stays", x.told(1), -20_000);
        DUE.is("11 residual(0) stays", x.residual(0), 0);
        DUE.is("11 residual(1) stays", x.residual(1), Long.MIN_VALUE - 40_000_000);
        SectionFibres none = Sections.pair(30_000);
        DUE.is("11 run(40001, 0)", none.run(40_001, 0), 1);
        DUE.is("11 no plane after 1", none.told(0), BAD);
        DUE.is("11 run(0, 40000001)", none.run(0, 40_000_001), 2);
        DUE.is("11 no plane after 2", none.told(0), BAD);
    }

    private static void solved(SectionFibres x, long force, long moment, int e, int k) {
        String call = "11 run(" + force + ", " + moment + ")";
        DUE.is(call, x.run(force, moment), 0);
        DUE.is(call + " told(0)", x.told(0), e);
        DUE.is(call + " told(1)", x.told(1), k);
    }

    private static void promise12Told() {
        SectionFibres x = Sections.pair(100);
        DUE.is("12 run(0, 200000)", x.run(0, 200_000), 0);
        DUE.is("12 told(0)", x.told(0), 0);
        DUE.is("12 told(1)", x.told(1), 100);
        DUE.is("12 told(2) at the ends of the row", x.told(2), BAD);
        DUE.is("12 told(3)", x.told(3), BAD);
        DUE.is("12 told(-1)", x.told(-1), BAD);
        DUE.is("12 told(MIN)", x.told(MIN), BAD);
        DUE.is("12 told(MAX)", x.told(MAX), BAD);
        x.fibre(0, 2_000, 3);
        x.fibre(0, 1_001, 0);
        x.fibre(0, 1_010, 0);
        DUE.is("12 no plane", x.told(2), BAD);
        x.run(0, 200_000);
        DUE.is("12 beyond, of no area, behind one without points", x.told(2), 4);
        x.fibre(0, -1_001, 0);
        x.born(3, -1);
        x.run(0, 200_000);
        DUE.is("12 the first one beyond", x.told(2), 3);
        x.creeps(0, 100);
        x.run(0, 100_000);
        DUE.is("12 what works is beyond, not the strain", x.told(2), BAD);
        DUE.is("12 the strain would be beyond", x.told(1) * 1_001 / 1_000 > 99, true);
    }

    private static void promise13Residual() {
        SectionFibres x = Sections.pair(30_000);
        DUE.is("13 no plane, 0", x.residual(0), NONE);
        DUE.is("13 no plane, 1", x.residual(1), NONE);
        x.run(3, -13_999);
        DUE.is("13 residual(0)", x.residual(0), 1);
        DUE.is("13 residual(1)", x.residual(1), 1_999);
        DUE.is("13 residual(-1)", x.residual(-1), NONE);
        DUE.is("13 residual(2)", x.residual(2), NONE);
        DUE.is("13 residual(MIN)", x.residual(MIN), NONE);
        DUE.is("13 residual(MAX)", x.residual(MAX), NONE);
        SectionFibres empty = new SectionFibres();
        DUE.is("13 run(MIN, MIN + 1)", empty.run(Long.MIN_VALUE, Long.MIN_VALUE + 1), 0);
        DUE.is("13 residual(0) wraps", empty.residual(0), Long.MIN_VALUE);
        DUE.is("13 residual(1) does not wrap", empty.residual(1), Long.MAX_VALUE);
    }

    private static void promise14In() {
        SectionFibres x = Sections.pair(30_000);
        DUE.throwsIndex("14 in(2, 0) without a plane", () -> x.in(2, 0));
        DUE.throwsIndex("14 in(-1, 9) without a plane", () -> x.in(-1, 9));
        DUE.is("14 in(0, 0) without a plane", x.in(0, 0), NONE_E);
        DUE.is("14 in(0, 1) without a plane", x.in(0, 1), NONE_E);
        x.born(0, 40);
        x.keeps(0, 10);
        x.creeps(0, 100);
        x.shrinks(0, -6);
        DUE.is("14 run(-10, 0)", x.run(-10, 0), 0);
        int strainOf0 = x.told(0) - x.told(1);
        int strainOf1 = x.told(0) + x.told(1);
        DUE.is("14 in(0, 0)", x.in(0, 0), (strainOf0 - 40 + 6) / 2);
        DUE.is("14 in(0, 1)", x.in(0, 1), (strainOf0 - 40 + 6) / 2 * 10 / 100);
        DUE.is("14 in(1, 0)", x.in(1, 0), (strainOf1 + 6) / 2);
        DUE.is("14 in(1, 1)", x.in(1, 1), (strainOf1 + 6) / 2);
        DUE.is("14 in(1, -1)", x.in(1, -1), NONE_E);
        DUE.is("14 in(1, 2)", x.in(1, 2), NONE_E);
        DUE.is("14 in(1, MAX)", x.in(1, MAX), NONE_E);
        DUE.throwsIndex("14 in(2, 0)", () -> x.in(2, 0));
        DUE.throwsIndex("14 in(2, 2)", () -> x.in(2, 2));
        DUE.throwsIndex("14 in(MIN, 0)", () -> x.in(MIN, 0));
        DUE.throwsIndex("14 in(MAX, 0)", () -> x.in(MAX, 0));
    }

    private static void promise15Curve() {
        SectionFibres x = Sections.pair(30_000);
        DUE.is("15 curve(0, 10, 3)", x.curve(0, 10, 3), 60_000);
        DUE.is("15 curve(0, 1, 0)", x.curve(0, 1, 0), 0);
        DUE.is("15 curve(0, 1, 20)", x.curve(0, 1, 20), 40_000);
        DUE.is("15 curve(0, 1000, 20)", x.curve(0, 1_000, 20), 40_000_000);
        DUE.is("15 curve(30000, 1000, 20)", x.curve(30_000, 1_000, 20), 30_000_000);
        DUE.is("15 no balance", x.curve(30_001, 1_000, 20), NONE);
        DUE.is("15 curve(0, 0, 1)", x.curve(0, 0, 1), NONE);
        DUE.is("15 curve(0, 1001, 1)", x.curve(0, 1_001, 1), NONE);
        DUE.is("15 curve(0, MIN, 1)", x.curve(0, MIN, 1), NONE);
        DUE.is("15 curve(0, -1, -1)", x.curve(0, -1, -1), NONE);
        DUE.is("15 curve(0, 1, -1)", x.curve(0, 1, -1), NONE);
        DUE.is("15 curve(0, 1, 21)", x.curve(0, 1, 21), NONE);
        DUE.is("15 curve(0, MAX, MAX)", x.curve(0, MAX, MAX), NONE);
        DUE.is("15 no plane came to hand", x.told(0), BAD);
    }

    private static void promise16Last() {
        SectionFibres x = Sections.pair(100);
        DUE.is("16 last(0, 30)", x.last(0, 30), 4);
        DUE.is("16 last(0, 1000)", x.last(0, 1_000), 1);
        DUE.is("16 last(0, 5) ends at the row's end", x.last(0, 5), BAD);
        DUE.is("16 last(0, 1)", x.last(0, 1), BAD);
        DUE.is("16 beyond without a bend", x.last(-200, 1), 0);
        DUE.is("16 no balance without a bend", x.last(201, 5), BAD);
        DUE.is("16 last(0, 0)", x.last(0, 0), BAD);
        DUE.is("16 last(-200, 0)", x.last(-200, 0), BAD);
        DUE.is("16 last(-200, 1001)", x.last(-200, 1_001), BAD);
        DUE.is("16 last(-200, MIN)", x.last(-200, MIN), BAD);
        DUE.is("16 last(-200, MAX)", x.last(-200, MAX), BAD);
        DUE.is("16 with the last of all bends", Sections.pair(95).last(0, 5), 20);
        DUE.is("16 last(30001, 1000)", Sections.pair(30_000).last(30_001, 1_000), 15);
        DUE.is("16 no balance before one is beyond", Sections.pair(30_000).last(40_000, 1_000), BAD);
        DUE.is("16 no plane came to hand", x.told(0), BAD);
    }

    private static void promise17Needed() {
        SectionFibres x = new SectionFibres();
        x.point(1, 0, 10);
        DUE.is("17 nothing is needed", x.needed(1_000, 1, 5, 0, 0), 0);
        DUE.is("17 for the force", x.needed(1_000, 1, 5, 100, 0), 10);
        DUE.is("17 for a little more force", x.needed(1_000, 1, 5, 101, 0), 15);
        DUE.is("17 for the moment", x.needed(1_000, 1, 5, 0, 50_000), 5);
        DUE.is("17 for a little more moment", x.needed(1_000, 1, 5, 0, 50_001), 10);
        DUE.is("17 all 20 steps", x.needed(1_000, 1, 5, 1_000, 0), 100);
        DUE.is("17 more than 20 steps", x.needed(1_000, 1, 5, 1_001, 0), BAD);
        DUE.is("17 another place", x.needed(-1_000, 1, 5, 0, 1), BAD);
        DUE.is("17 another kind", x.needed(1_000, 0, 5, 1, 0), BAD);
        DUE.is("17 step 1, place 2000", x.needed(2_000, 1, 1, 0, 20_001), 2);
        DUE.is("17 step 5000, place -2000", x.needed(-2_000, 1, 5_000, 1_000_000, -2_000_000_000), 100_000);
        int[][] wrong = {
            {-2_001, 1, 5}, {2_001, 1, 5}, {0, -1, 5}, {0, 4, 5}, {0, 1, 0}, {0, 1, 5_001}, {0, 1, -1},
            {MIN, 1, 5}, {MAX, 1, 5}, {0, MIN, 5}, {0, MAX, 5}, {0, 1, MIN}, {0, 1, MAX},
        };
        for (int[] w : wrong) {
            DUE.is("17 needed(" + w[0] + ", " + w[1] + ", " + w[2] + ", 0, 0)", x.needed(w[0], w[1], w[2], 0, 0), BAD);
        }
        DUE.is("17 count(0)", x.count(0), 0);
        tooMuchAreaIsNoHelp();
        neededChangesNothing();
    }

    /** A fibre that only pulls down the moment: none of it is right, more would be wrong. */
    private static void tooMuchAreaIsNoHelp() {
        SectionFibres x = new SectionFibres();
        x.point(0, 0, 10);
        x.fibre(1, 1_000, 0);
        DUE.is("17 none is best", x.needed(-1_000, 0, 1, 0, 10_000), 0);
        DUE.is("17 one step is right, all would be wrong", x.needed(-1_000, 0, 1, 20, 0), 1);
        DUE.is("17 two steps are needed and are too many", x.needed(-1_000, 0, 1, 30, 0), BAD);
    }

    private static void neededChangesNothing() {
        SectionFibres x = Sections.single();
        for (int i = 1; i < 40; i++) {
            x.fibre(0, 0, 0);
        }
        x.run(30, 0);
        DUE.is("17 one more than 40", x.needed(0, 0, 1, 200_001, 0), 1);
        DUE.is("17 even if 20 steps are too little", x.needed(2_000, 0, 1, Long.MAX_VALUE, 0), BAD);
        DUE.is("17 count(0) stays", x.count(0), 40);
        DUE.is("17 count(1) stays", x.count(1), 10);
        DUE.is("17 the plane stays", x.told(0), 3);
        DUE.is("17 of stays", x.of(3, 5, 0), 30);
        DUE.throwsIndex("17 in(40, 0)", () -> x.in(40, 0));
        SectionFibres few = Sections.single();
        few.needed(1_000, 3, 7, 200_001, 0);
        DUE.is("17 the next fibre", few.fibre(2, 0, 0), 1);
        DUE.is("17 of with the next fibre", few.of(1, 0, 0), 12);
    }

    private static void promise18Count() {
        SectionFibres x = new SectionFibres();
        x.fibre(100_000, 0, 0);
        x.fibre(23, 0, 3);
        for (int kind = 0; kind < 4; kind++) {
            for (int i = 0; i <= kind; i++) {
                x.point(kind, i, i);
            }
        }
        int[] due = {2, 100_023, 1, 2, 3, 4, BAD};
        for (int what = 0; what < due.length; what++) {
            DUE.is("18 count(" + what + ")", x.count(what), due[what]);
        }
        DUE.is("18 count(-1)", x.count(-1), BAD);
        DUE.is("18 count(MIN)", x.count(MIN), BAD);
        DUE.is("18 count(MAX)", x.count(MAX), BAD);
    }

    private static void whatRefusesKeepsThePlane() {
        SectionFibres x = Sections.single();
        x.run(30, 0);
        x.fibre(-1, 0, 0);
        DUE.is("2 a refused fibre keeps the plane", x.told(0), 3);
        x.point(0, 0, 0);
        DUE.is("3 a refused point keeps the plane", x.told(0), 3);
        x.born(1, 0);
        DUE.is("4 a refused born keeps the plane", x.told(0), 3);
        x.creeps(0, 501);
        DUE.is("5 a refused creeps keeps the plane", x.told(0), 3);
        x.shrinks(0, 5_001);
        DUE.is("6 a refused shrinks keeps the plane", x.told(0), 3);
        x.keeps(0, 101);
        DUE.is("7 a refused keeps keeps the plane", x.told(0), 3);
        x.of(1, 1, 1);
        x.row(0, 1);
        x.balance(50, 5);
        x.curve(50, 5, 5);
        x.last(50, 5);
        x.needed(5, 0, 5, 50, 50);
        x.count(0);
        DUE.is("8 to 18: what only asks keeps the plane", x.told(0), 3);
    }

    private static void whatIsToldTakesThePlane() {
        SectionFibres x = Sections.single();
        x.run(30, 0);
        DUE.is("2 fibre", x.fibre(0, 0, 0), 1);
        goneThenBack("2 fibre takes the plane", x);
        DUE.is("3 point", x.point(3, 0, 0), true);
        goneThenBack("3 point takes the plane", x);
        DUE.is("4 born", x.born(0, 0), true);
        goneThenBack("4 born takes the plane", x);
        DUE.is("5 creeps", x.creeps(3, 0), true);
        goneThenBack("5 creeps takes the plane", x);
        DUE.is("6 shrinks", x.shrinks(3, 0), true);
        goneThenBack("6 shrinks takes the plane", x);
        DUE.is("7 keeps", x.keeps(0, 100), true);
        goneThenBack("7 keeps takes the plane", x);
    }

    private static void goneThenBack(String call, SectionFibres x) {
        DUE.is(call + ", told(0)", x.told(0), BAD);
        DUE.is(call + ", residual(0)", x.residual(0), NONE);
        DUE.is(call + ", in(0, 0)", x.in(0, 0), NONE_E);
        DUE.is(call + ", run", x.run(30, 0), 0);
        DUE.is(call + ", told(0) again", x.told(0), 3);
    }
}
