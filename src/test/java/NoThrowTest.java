import java.util.List;

/**
 * Numbers at and far beyond all bounds, in every state: no call throws but row() and in(), and these
 * only as promised.
 */
final class NoThrowTest {
    private static final int[] INTS = {
        Integer.MIN_VALUE, Integer.MIN_VALUE + 1, -1_000_001, -30_001, -20_001, -5_001, -2_001, -1, 0, 1, 3, 4, 8, 20, 21, 39,
        40, 41, 101, 501, 1_001, 2_001, 5_001, 20_001, 30_001, 100_001, 1_000_001, Integer.MAX_VALUE - 1, Integer.MAX_VALUE,
    };
    private static final int[] FEW = {Integer.MIN_VALUE, -2_001, -1, 0, 3, 4, 2_001, 5_001, Integer.MAX_VALUE};
    private static final long[] LONGS = {Long.MIN_VALUE, -1, 0, 1, 1L << 32, Long.MAX_VALUE};
    private static final List<Twins.Maker> STATES = List.of(Sections::empty, Sections::mixed, Sections::solved, Sections::full,
        Sections::fullRows);

    private static final Due DUE = new Due();

    public static void main(String[] args) {
        for (int state = 0; state < STATES.size(); state++) {
            withSums(state);
            for (int a : INTS) {
                withOne(state, a);
                for (int b : INTS) {
                    withTwo(state, a, b);
                }
            }
            for (int a : FEW) {
                for (int b : FEW) {
                    for (int c : FEW) {
                        withThree(state, a, b, c);
                    }
                }
            }
        }
        DUE.end("NoThrowTest");
    }

    private static void withOne(int state, int a) {
        noThrow(state, "told, residual, count(" + a + ")", x -> x.told(a) + x.residual(a) + x.count(a));
        for (long force : LONGS) {
            noThrow(state, "balance(" + force + ", " + a + ")", x -> x.balance(force, a));
            noThrow(state, "last(" + force + ", " + a + ")", x -> x.last(force, a));
        }
    }

    private static void withSums(int state) {
        for (long force : LONGS) {
            for (long moment : LONGS) {
                noThrow(state, "run(" + force + ", " + moment + ")", x -> x.run(force, moment));
            }
        }
    }

    private static void withTwo(int state, int a, int b) {
        String numbers = "(" + a + ", " + b + ")";
        noThrow(state, "born" + numbers, x -> x.born(a, b) ? 1 : 0);
        noThrow(state, "creeps" + numbers, x -> x.creeps(a, b) ? 1 : 0);
        noThrow(state, "shrinks" + numbers, x -> x.shrinks(a, b) ? 1 : 0);
        noThrow(state, "keeps" + numbers, x -> x.keeps(a, b) ? 1 : 0);
        SectionFibres x = STATES.get(state).make();
        if (a >= 0 && a < 4) {
            noThrow(state, "row" + numbers, y -> y.row(a, b));
        } else {
            DUE.throwsIndex("row" + numbers, () -> x.row(a, b));
        }
        if (a >= 0 && a < x.count(0)) {
            noThrow(state, "in" + numbers, y -> y.in(a, b));
        } else {
            DUE.throwsIndex("in" + numbers, () -> x.in(a, b));
        }
    }

    private static void withThree(int state, int a, int b, int c) {
        String numbers = "(" + a + ", " + b + ", " + c + ")";
        noThrow(state, "fibre" + numbers, x -> x.fibre(a, b, c));
        noThrow(state, "point" + numbers, x -> x.point(a, b, c) ? 1 : 0);
        noThrow(state, "of" + numbers, x -> x.of(a, b, c));
        for (long force : LONGS) {
            noThrow(state, "curve(" + force + ") " + numbers, x -> x.curve(force, a, b));
            noThrow(state, "needed(.., " + force + ", 0) " + numbers, x -> x.needed(a, b, c, force, 0));
            noThrow(state, "needed(.., 0, " + force + ") " + numbers, x -> x.needed(a, b, c, 0, force));
        }
    }

    private static void noThrow(int state, String call, Twins.Call made) {
        String thrown = "nothing";
        try {
            made.on(STATES.get(state).make());
        } catch (Throwable e) {
            thrown = e.toString();
        }
        DUE.is("state " + state + ", " + call + " threw " + thrown + ": whether it threw", !thrown.equals("nothing"), false);
    }
}
