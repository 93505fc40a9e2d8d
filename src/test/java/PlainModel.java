import java.util.ArrayList;
import java.util.List;

/**
 * The document's terms once more, as slowly as its words say them: the balance is looked for from
 * - 20,000 upwards, one strain after the other. Exceptions are the answer THROWN.
 */
final class PlainModel {
    static final long THROWN = Long.MIN_VALUE + 77;
    private static final long NONE = -(1L << 62);
    private static final int NONE_E = -1_000_000;

    private static final class Fibre {
        final int area;
        final int at;
        final Kind kind;
        int born = 0;
        int kept = 100;

        Fibre(int area, int at, Kind kind) {
            this.area = area;
            this.at = at;
            this.kind = kind;
        }
    }

    private static final class Kind {
        final List<int[]> points = new ArrayList<>();
        int creep = 0;
        int shrunk = 0;
    }

    private record Plane(int e, int k, long force, long moment) {
    }

    private final List<Fibre> fibres = new ArrayList<>();
    private final Kind[] kinds = {new Kind(), new Kind(), new Kind(), new Kind()};
    private Plane plane = null;

    long fibre(int area, int at, int kind) {
        boolean such = 0 <= area && area <= 100_000 && Math.abs((long) at) <= 2_000 && isKind(kind);
        if (!such || fibres.size() == 40) {
            return -1;
        }
        plane = null;
        fibres.add(new Fibre(area, at, kinds[kind]));
        return fibres.size() - 1;
    }

    long point(int kind, int strain, int stress) {
        if (!isKind(kind) || Math.abs((long) strain) > 30_000 || Math.abs((long) stress) > 1_000_000) {
            return 0;
        }
        List<int[]> points = kinds[kind].points;
        if (points.size() == 8) {
            return 0;
        }
        if (!points.isEmpty()) {
            int[] last = points.get(points.size() - 1);
            if (strain <= last[0] || stress < last[1]) {
                return 0;
            }
        }
        plane = null;
        points.add(new int[] {strain, stress});
        return 1;
    }

    long born(int fibre, int strain) {
        if (!isFibre(fibre) || Math.abs((long) strain) > 30_000) {
            return 0;
        }
        plane = null;
        fibres.get(fibre).born = strain;
        return 1;
    }

    long creeps(int kind, int percent) {
        if (!isKind(kind) || percent < 0 || percent > 500) {
            return 0;
        }
        plane = null;
        kinds[kind].creep = percent;
        return 1;
    }

    long shrinks(int kind, int strain) {
        if (!isKind(kind) || Math.abs((long) strain) > 5_000) {
            return 0;
        }
        plane = null;
        kinds[kind].shrunk = strain;
        return 1;
    }

    long keeps(int fibre, int percent) {
        if (!isFibre(fibre) || percent < 0 || percent > 100) {
            return 0;
        }
        plane = null;
        fibres.get(fibre).kept = percent;
        return 1;
    }

    long row(int kind, int strain) {
        return isKind(kind) ? rowStress(kinds[kind], strain) : THROWN;
    }

    long of(int e, int k, int what) {
        if (Math.abs((long) e) > 20_000 || Math.abs((long) k) > 20_000) {
            return NONE;
        }
        return what == 0 ? force(e, k) : what == 1 ? moment(e, k) : NONE;
    }

    long balance(long force, int k) {
        if (Math.abs((long) k) > 20_000) {
            return NONE_E;
        }
        for (int e = -20_000; e <= 20_000; e++) {
            if (force(e, k) >= force) {
                return e;
            }
        }
        return NONE_E;
    }

    long run(long force, long moment) {
        int low = -20_000;
        int high = 20_000;
        while (low < high) {
            int middle = (int) Math.floor((low + high) / 2.0);
            long e = balance(force, middle);
            if (e == NONE_E) {
                return 1;
            }
            if (moment((int) e, middle) >= moment) {
                high = middle;
            } else {
                low = middle + 1;
            }
        }
        long e = balance(force, low);
        if (e == NONE_E) {
            return 1;
        }
        if (moment((int) e, low) < moment) {
            return 2;
        }
        plane = new Plane((int) e, low, force, moment);
        return 0;
    }

    long told(int what) {
        if (plane == null) {
            return -1;
        }
        return what == 0 ? plane.e : what == 1 ? plane.k : what == 2 ? firstBeyond(plane.e, plane.k) : -1;
    }

    long residual(int what) {
        if (plane == null) {
            return NONE;
        }
        return what == 0 ? force(plane.e, plane.k) - plane.force
            : what == 1 ? moment(plane.e, plane.k) - plane.moment : NONE;
    }

    long in(int fibre, int what) {
        if (!isFibre(fibre)) {
            return THROWN;
        }
        if (plane == null) {
            return NONE_E;
        }
        Fibre f = fibres.get(fibre);
        return what == 0 ? works(f, plane.e, plane.k) : what == 1 ? stress(f, plane.e, plane.k) : NONE_E;
    }

    long curve(long force, int step, int k) {
        if (step < 1 || step > 1_000 || k < 0 || k > 20) {
            return NONE;
        }
        long e = balance(force, k * step);
        return e == NONE_E ? NONE : moment((int) e, k * step);
    }

    long last(long force, int step) {
        if (step < 1 || step > 1_000) {
            return -1;
        }
        for (int k = 0; k <= 20; k++) {
            long e = balance(force, k * step);
            if (e == NONE_E) {
                return -1;
            }
            if (firstBeyond((int) e, k * step) >= 0) {
                return k;
            }
        }
        return -1;
    }

    long needed(int at, int kind, int step, long force, long moment) {
        if (Math.abs((long) at) > 2_000 || !isKind(kind) || step < 1 || step > 5_000) {
            return -1;
        }
        Plane before = plane;
        long least = -1;
        for (int area = 0; area <= 20 * step && least < 0; area += step) {
            fibres.add(new Fibre(area, at, kinds[kind]));
            if (run(force, moment) == 0) {
                least = area;
            }
            fibres.remove(fibres.size() - 1);
        }
        plane = before;
        return least;
    }

    long count(int what) {
        if (what == 0) {
            return fibres.size();
        }
        if (what == 1) {
            return fibres.stream().mapToLong(f -> f.area).sum();
        }
        return isKind(what - 2L) ? kinds[what - 2].points.size() : -1;
    }

    private boolean isFibre(int fibre) {
        return 0 <= fibre && fibre < fibres.size();
    }

    private static boolean isKind(long kind) {
        return 0 <= kind && kind <= 3;
    }

    private static long rowStress(Kind kind, long strain) {
        int[] below = null;
        for (int[] point : kind.points) {
            if (strain < point[0]) {
                return below == null ? point[1]
                    : below[1] + (long) (point[1] - below[1]) * (strain - below[0]) / (point[0] - below[0]);
            }
            below = point;
        }
        return below == null ? 0 : below[1];
    }

    private static long works(Fibre f, int e, int k) {
        long strain = Math.floorDiv(1_000L * e + (long) k * f.at, 1_000L);
        return (strain - f.born - f.kind.shrunk) * 100 / (100 + f.kind.creep);
    }

    private static long stress(Fibre f, int e, int k) {
        return rowStress(f.kind, works(f, e, k)) * f.kept / 100;
    }

    private long force(int e, int k) {
        long sum = 0;
        for (Fibre f : fibres) {
            sum += f.area * stress(f, e, k);
        }
        return sum;
    }

    private long moment(int e, int k) {
        long sum = 0;
        for (Fibre f : fibres) {
            sum += f.area * stress(f, e, k) * f.at;
        }
        return sum;
    }

    private int firstBeyond(int e, int k) {
        for (int i = 0; i < fibres.size(); i++) {
            List<int[]> points = fibres.get(i).kind.points;
            long strain = works(fibres.get(i), e, k);
            if (!points.isEmpty() && (strain < points.get(0)[0] || strain > points.get(points.size() - 1)[0])) {
                return i;
            }
        }
        return -1;
    }
}
