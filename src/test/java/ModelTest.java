import java.util.Random;

/** Long runs of calls, most of them sensible and some wrong, against the plain model (seeds are fixed). */
final class ModelTest {
    private static final int RUNS = 240;
    private static final int CALLS = 60;

    private static final Due DUE = new Due();

    private final Random random;
    private final SectionFibres x = new SectionFibres();
    private final PlainModel model = new PlainModel();
    private final String name;

    private ModelTest(int seed) {
        random = new Random(seed);
        name = "run " + seed + ", ";
    }

    public static void main(String[] args) {
        for (int seed = 1; seed <= RUNS; seed++) {
            ModelTest test = new ModelTest(seed);
            test.build();
            for (int i = 0; i < CALLS; i++) {
                test.call();
            }
        }
        full();
        DUE.end("ModelTest");
    }

    /** Forty fibres: the most that a plane has to do with. */
    private static void full() {
        ModelTest test = new ModelTest(RUNS + 1);
        test.build();
        for (int i = 0; i < 41; i++) {
            test.fibre();
        }
        test.run();
        test.needed();
        test.curve();
        test.told();
    }

    private void build() {
        for (int kind = 0; kind < 4; kind++) {
            int points = random.nextInt(6);
            int strain = -25_000 + random.nextInt(15_000);
            int stress = -random.nextInt(500_000);
            for (int i = 0; i < points; i++) {
                same("point(" + kind + ", " + strain + ", " + stress + ")", x.point(kind, strain, stress) ? 1 : 0,
                    model.point(kind, strain, stress));
                strain += 1 + random.nextInt(15_000);
                stress += random.nextInt(300_000);
            }
        }
        int fibres = random.nextInt(4);
        for (int i = 0; i < fibres; i++) {
            fibre();
        }
    }

    private void call() {
        switch (random.nextInt(28)) {
            case 0 -> fibre();
            case 1 -> point();
            case 2 -> born();
            case 3 -> creeps();
            case 4 -> shrinks();
            case 5 -> keeps();
            case 6, 7 -> row();
            case 8, 9, 10 -> of();
            case 11, 12 -> balance();
            case 13, 14 -> run();
            case 15, 16, 17 -> told();
            case 18, 19 -> residual();
            case 20, 21, 22 -> in();
            case 23 -> curve();
            case 24 -> last();
            case 25 -> {
                if (random.nextInt(4) == 0) {
                    needed();
                }
            }
            default -> count();
        }
    }

    /** A number from least to most, an edge now and then, seldom one that is beyond them or far off. */
    private int number(int least, int most) {
        switch (random.nextInt(24)) {
            case 0:
                return least;
            case 1:
                return most;
            case 2:
                return random.nextBoolean() ? least - 1 : most + 1;
            case 3:
                return random.nextInt(8) == 0 ? random.nextInt() : least;
            default:
                return least + random.nextInt(most - least + 1);
        }
    }

    private long force() {
        return sum(0);
    }

    private long moment() {
        return sum(1);
    }

    /** What some plane carries, so that most balances can be. */
    private long sum(int what) {
        if (random.nextInt(20) == 0) {
            return random.nextLong();
        }
        long some = model.of(random.nextInt(16_001) - 8_000, random.nextInt(8_001) - 4_000, what);
        return some + random.nextInt(3) - 1;
    }

    private void fibre() {
        int area = number(0, 100_000);
        int at = number(-2_000, 2_000);
        int kind = number(0, 3);
        same("fibre(" + area + ", " + at + ", " + kind + ")", x.fibre(area, at, kind), model.fibre(area, at, kind));
    }

    private void point() {
        int kind = number(0, 3);
        int strain = number(-30_000, 30_000);
        int stress = number(-1_000_000, 1_000_000);
        same("point(" + kind + ", " + strain + ", " + stress + ")", x.point(kind, strain, stress) ? 1 : 0,
            model.point(kind, strain, stress));
    }

    private void born() {
        int fibre = number(0, 3);
        int strain = number(-30_000, 30_000) / (1 + random.nextInt(20));
        same("born(" + fibre + ", " + strain + ")", x.born(fibre, strain) ? 1 : 0, model.born(fibre, strain));
    }

    private void creeps() {
        int kind = number(0, 3);
        int percent = number(0, 500);
        same("creeps(" + kind + ", " + percent + ")", x.creeps(kind, percent) ? 1 : 0, model.creeps(kind, percent));
    }

    private void shrinks() {
        int kind = number(0, 3);
        int strain = number(-5_000, 5_000);
        same("shrinks(" + kind + ", " + strain + ")", x.shrinks(kind, strain) ? 1 : 0, model.shrinks(kind, strain));
    }

    private void keeps() {
        int fibre = number(0, 3);
        int percent = number(0, 100);
        same("keeps(" + fibre + ", " + percent + ")", x.keeps(fibre, percent) ? 1 : 0, model.keeps(fibre, percent));
    }

    private void row() {
        int kind = number(0, 3);
        int strain = number(-35_000, 35_000);
        same("row(" + kind + ", " + strain + ")", orThrown(() -> x.row(kind, strain)), model.row(kind, strain));
    }

    private void of() {
        int e = number(-20_000, 20_000);
        int k = number(-20_000, 20_000);
        int what = number(0, 1);
        same("of(" + e + ", " + k + ", " + what + ")", x.of(e, k, what), model.of(e, k, what));
    }

    private void balance() {
        long force = force();
        int k = number(-20_000, 20_000);
        same("balance(" + force + ", " + k + ")", x.balance(force, k), model.balance(force, k));
    }

    private void run() {
        long force = force();
        long moment = moment();
        same("run(" + force + ", " + moment + ")", x.run(force, moment), model.run(force, moment));
    }

    private void told() {
        int what = number(0, 2);
        same("told(" + what + ")", x.told(what), model.told(what));
    }

    private void residual() {
        int what = number(0, 1);
        same("residual(" + what + ")", x.residual(what), model.residual(what));
    }

    private void in() {
        int fibre = number(0, 3);
        int what = number(0, 1);
        same("in(" + fibre + ", " + what + ")", orThrown(() -> x.in(fibre, what)), model.in(fibre, what));
    }

    private void curve() {
        long force = force();
        int step = number(1, 1_000);
        int k = number(0, 20);
        same("curve(" + force + ", " + step + ", " + k + ")", x.curve(force, step, k), model.curve(force, step, k));
    }

    private void last() {
        long force = force();
        int step = number(1, 1_000);
        same("last(" + force + ", " + step + ")", x.last(force, step), model.last(force, step));
    }

    private void needed() {
        int at = number(-2_000, 2_000);
        int kind = number(0, 3);
        int step = number(1, 5_000);
        long force = force();
        long moment = moment();
        same("needed(" + at + ", " + kind + ", " + step + ", " + force + ", " + moment + ")",
            x.needed(at, kind, step, force, moment), model.needed(at, kind, step, force, moment));
    }

    private void count() {
        int what = number(0, 5);
        same("count(" + what + ")", x.count(what), model.count(what));
    }

    private static long orThrown(Due.Call call) {
        try {
            return call.answer();
        } catch (ArrayIndexOutOfBoundsException e) {
            return PlainModel.THROWN;
        }
    }

    private void same(String call, long got, long want) {
        DUE.is(name + call, got, want);
    }
}
