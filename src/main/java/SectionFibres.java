/**
 * Sections by fibres, in whole numbers: rows of stress by strain for kinds of stuff, fibres with
 * areas and places, and the plane of strains that balances a force and a moment by halving.
 */
public final class SectionFibres {
    public static final int BAD = -1;

    private static final long NONE = -(1L << 62);
    private static final int NONE_E = -1_000_000;

    private static final int KINDS = 4;
    private static final int MOST_POINTS = 8;
    private static final int MOST_FIBRES = 40;
    private static final int MOST_AREA = 100_000;
    private static final int FARTHEST_PLACE = 2_000;
    private static final int MOST_TOLD_STRAIN = 30_000;
    private static final int MOST_STRESS = 1_000_000;
    private static final int MOST_CREEP = 500;
    private static final int MOST_SHRUNK = 5_000;
    private static final int MOST_OF_PLANE = 20_000;
    private static final int MOST_BEND_STEP = 1_000;
    private static final int MOST_AREA_STEP = 5_000;
    private static final int MOST_STEPS = 20;

    private static final int FORCE = 0;
    private static final int MOMENT = 1;

    // Halving 40,001 numbers ends after 16 turns; the bound only shows that the loops end.
    private static final int MOST_HALVINGS = 32;

    // Answers of bendFor() that no bend can be.
    private static final int NO_BALANCE = 1_000_001;
    private static final int NO_MOMENT = 1_000_002;

    private final Section section;
    private boolean planeAtHand;
    private int planeE;
    private int planeK;
    private long solvedForce;
    private long solvedMoment;

    public SectionFibres() {
        section = new Section();
    }

    public int fibre(int area, int at, int kind) {
        if (!within(area, 0, MOST_AREA) || !isPlace(at) || !isKind(kind)) {
            return BAD;
        }
        if (section.size >= MOST_FIBRES) {
            return BAD;
        }
        section.add(area, at, kind);
        planeAtHand = false;
        return section.size - 1;
    }

    public boolean point(int kind, int strain, int stress) {
        if (!isKind(kind) || !isToldStrain(strain) || !within(stress, -MOST_STRESS, MOST_STRESS)) {
            return false;
        }
        if (!section.kinds.addPoint(kind, strain, stress)) {
            return false;
        }
        planeAtHand = false;
        return true;
    }

    public boolean born(int fibre, int strain) {
        if (!section.has(fibre) || !isToldStrain(strain)) {
            return false;
        }
        section.births[fibre] = strain;
        planeAtHand = false;
        return true;
    }

    public boolean creeps(int kind, int percent) {
        if (!isKind(kind) || !within(percent, 0, MOST_CREEP)) {
            return false;
        }
        section.kinds.creep[kind] = percent;
        planeAtHand = false;
        return true;
    }

    public boolean shrinks(int kind, int strain) {
        if (!isKind(kind) || !within(strain, -MOST_SHRUNK, MOST_SHRUNK)) {
            return false;
        }
        section.kinds.shrunk[kind] = strain;
        planeAtHand = false;
        return true;
    }

    public boolean keeps(int fibre, int percent) {
        if (!section.has(fibre) || !within(percent, 0, 100)) {
            return false;
        }
        section.kept[fibre] = percent;
        planeAtHand = false;
        return true;
    }

    public int row(int kind, int strain) throws ArrayIndexOutOfBoundsException {
        if (!isKind(kind)) {
            throw new ArrayIndexOutOfBoundsException("no such kind");
        }
        return section.kinds.stressAt(kind, strain);
    }

    public long of(int e, int k, int what) {
        if (!isOfPlane(e) || !isOfPlane(k) || !isSum(what)) {
            return NONE;
        }
        return section.sumOf(what, e, k);
    }

    public int balance(long force, int k) {
        if (!isOfPlane(k)) {
            return NONE_E;
        }
        return section.balanceOf(force, k);
    }

    public int run(long force, long moment) {
        int bend = section.bendFor(force, moment);
        if (bend == NO_BALANCE) {
            return 1;
        }
        if (bend == NO_MOMENT) {
            return 2;
        }
        planeAtHand = true;
        planeE = section.balanceOf(force, bend);
        planeK = bend;
        solvedForce = force;
        solvedMoment = moment;
        return 0;
    }

    public int told(int what) {
        if (!planeAtHand) {
            return BAD;
        }
        switch (what) {
            case 0:
                return planeE;
            case 1:
                return planeK;
            case 2:
                return section.firstBeyond(planeE, planeK);
            default:
                return BAD;
        }
    }

    public long residual(int what) {
        if (!planeAtHand || !isSum(what)) {
            return NONE;
        }
        return section.sumOf(what, planeE, planeK) - (what == FORCE ? solvedForce : solvedMoment);
    }

    public int in(int fibre, int what) throws ArrayIndexOutOfBoundsException {
        if (!section.has(fibre)) {
            throw new ArrayIndexOutOfBoundsException("no such fibre");
        }
        if (!planeAtHand) {
            return NONE_E;
        }
        switch (what) {
            case 0:
                return section.worksOn(fibre, planeE, planeK);
            case 1:
                return section.stressOn(fibre, planeE, planeK);
            default:
                return NONE_E;
        }
    }

    public long curve(long force, int step, int k) {
        if (!isBendStep(step) || !within(k, 0, MOST_STEPS)) {
            return NONE;
        }
        int e = section.balanceOf(force, k * step);
        return e == NONE_E ? NONE : section.sumOf(MOMENT, e, k * step);
    }

    public int last(long force, int step) {
        if (!isBendStep(step)) {
            return BAD;
        }
        for (int k = 0; k <= MOST_STEPS; k++) {
            int e = section.balanceOf(force, k * step);
            if (e == NONE_E) {
                return BAD;
            }
            if (section.firstBeyond(e, k * step) != BAD) {
                return k;
            }
        }
        return BAD;
    }

    public int needed(int at, int kind, int step, long force, long moment) {
        if (!isPlace(at) || !isKind(kind) || !within(step, 1, MOST_AREA_STEP)) {
            return BAD;
        }
        int least = BAD;
        section.add(0, at, kind);
        for (int steps = 0; steps <= MOST_STEPS && least == BAD; steps++) {
            section.setLastArea(steps * step);
            if (isOfPlane(section.bendFor(force, moment))) {
                least = steps * step;
            }
        }
        section.dropLast();
        return least;
    }

    public int count(int what) {
        if (what == 0) {
            return section.size;
        }
        if (what == 1) {
            return section.allAreas();
        }
        return within(what, 2, 1 + KINDS) ? section.kinds.points[what - 2] : BAD;
    }

    private static boolean within(int number, int least, int most) {
        return number >= least && number <= most;
    }

    private static boolean isKind(int kind) {
        return within(kind, 0, KINDS - 1);
    }

    private static boolean isPlace(int at) {
        return within(at, -FARTHEST_PLACE, FARTHEST_PLACE);
    }

    private static boolean isToldStrain(int strain) {
        return within(strain, -MOST_TOLD_STRAIN, MOST_TOLD_STRAIN);
    }

    private static boolean isOfPlane(int number) {
        return within(number, -MOST_OF_PLANE, MOST_OF_PLANE);
    }

    private static boolean isSum(int what) {
        return what == FORCE || what == MOMENT;
    }

    private static boolean isBendStep(int step) {
        return within(step, 1, MOST_BEND_STEP);
    }

    /**
     * One number times another by a third, cut off towards 0. All divisions by what was told stand
     * here, so that one test guards them.
     */
    private static int share(long number, long times, long by) {
        return by == 0 ? 0 : (int) (number * times / by);
    }

    /** The rows, the creep and the shrinking of the kinds; who calls has tested the kind. */
    private static final class Kinds {
        // The points of kind 0, then those of kind 1, ..: fewer objects than an array for each kind.
        private final int[] strains = new int[KINDS * MOST_POINTS];
        private final int[] stresses = new int[KINDS * MOST_POINTS];
        private final int[] points = new int[KINDS];
        private final int[] creep = new int[KINDS];
        private final int[] shrunk = new int[KINDS];

        /** False, and nothing is added, if the row is full or the point would lead it back or down. */
        private boolean addPoint(int kind, int strain, int stress) {
            int held = points[kind];
            if (held >= MOST_POINTS) {
                return false;
            }
            int next = kind * MOST_POINTS + held;
            if (held > 0 && (strain <= strains[next - 1] || stress < stresses[next - 1])) {
                return false;
            }
            strains[next] = strain;
            stresses[next] = stress;
            points[kind] = held + 1;
            return true;
        }

        private int stressAt(int kind, int strain) {
            if (points[kind] == 0) {
                return 0;
            }
            int first = kind * MOST_POINTS;
            int last = first + points[kind] - 1;
            if (strain <= strains[first]) {
                return stresses[first];
            }
            for (int i = first; i < last; i++) {
                if (strain < strains[i + 1]) {
                    int rise = stresses[i + 1] - stresses[i];
                    return stresses[i] + share(rise, strain - strains[i], strains[i + 1] - strains[i]);
                }
            }
            return stresses[last];
        }

        private boolean isBeyond(int kind, int strain) {
            if (points[kind] == 0) {
                return false;
            }
            int first = kind * MOST_POINTS;
            return strain < strains[first] || strain > strains[first + points[kind] - 1];
        }
    }

    /** The fibres and what planes do to them. */
    private static final class Section {
        // One slot more than there may be fibres, for the one that needed() tries.
        private static final int SLOTS = MOST_FIBRES + 1;

        private final Kinds kinds = new Kinds();
        private final int[] areas = new int[SLOTS];
        private final int[] places = new int[SLOTS];
        private final int[] kindOf = new int[SLOTS];
        private final int[] births = new int[SLOTS];
        private final int[] kept = new int[SLOTS];
        private int size;

        private boolean has(int fibre) {
            return within(fibre, 0, size - 1);
        }

        private void add(int area, int at, int kind) {
            if (size >= SLOTS) {
                return;
            }
            areas[size] = area;
            places[size] = at;
            kindOf[size] = kind;
            births[size] = 0;
            kept[size] = 100;
            size++;
        }

        private void setLastArea(int area) {
            if (size > 0) {
                areas[size - 1] = area;
            }
        }

        private void dropLast() {
            if (size > 0) {
                size--;
            }
        }

        private int allAreas() {
            int sum = 0;
            for (int i = 0; i < size; i++) {
                sum += areas[i];
            }
            return sum;
        }

        private int worksOn(int fibre, int e, int k) {
            int kind = kindOf[fibre];
            int strain = e + Math.floorDiv(k * places[fibre], 1_000);
            return share(strain - births[fibre] - kinds.shrunk[kind], 100, 100 + kinds.creep[kind]);
        }

        private int stressOn(int fibre, int e, int k) {
            return share(kinds.stressAt(kindOf[fibre], worksOn(fibre, e, k)), kept[fibre], 100);
        }

        private long sumOf(int what, int e, int k) {
            long sum = 0;
            for (int i = 0; i < size; i++) {
                long push = (long) areas[i] * stressOn(i, e, k);
                sum += what == MOMENT ? push * places[i] : push;
            }
            return sum;
        }

        private int firstBeyond(int e, int k) {
            for (int i = 0; i < size; i++) {
                if (kinds.isBeyond(kindOf[i], worksOn(i, e, k))) {
                    return i;
                }
            }
            return BAD;
        }

        /** The least E, or NONE_E; halving finds it, as FORCE never falls while E rises. */
        private int balanceOf(long force, int k) {
            int low = -MOST_OF_PLANE;
            int high = MOST_OF_PLANE;
            if (sumOf(FORCE, high, k) < force) {
                return NONE_E;
            }
            for (int turn = 0; turn < MOST_HALVINGS && low < high; turn++) {
                int middle = Math.floorDiv(low + high, 2);
                if (sumOf(FORCE, middle, k) >= force) {
                    high = middle;
                } else {
                    low = middle + 1;
                }
            }
            return low;
        }

        /** Solves: the K, or NO_BALANCE or NO_MOMENT. */
        private int bendFor(long force, long moment) {
            int low = -MOST_OF_PLANE;
            int high = MOST_OF_PLANE;
            for (int turn = 0; turn < MOST_HALVINGS && low < high; turn++) {
                int middle = Math.floorDiv(low + high, 2);
                int e = balanceOf(force, middle);
                if (e == NONE_E) {
                    return NO_BALANCE;
                }
                if (sumOf(MOMENT, e, middle) >= moment) {
                    high = middle;
                } else {
                    low = middle + 1;
                }
            }
            int e = balanceOf(force, low);
            if (e == NONE_E) {
                return NO_BALANCE;
            }
            return sumOf(MOMENT, e, low) < moment ? NO_MOMENT : low;
        }
    }
}
