/** Sections that several tests start from; what they answer can be worked out by hand. */
final class Sections {
    private Sections() {
    }

    static SectionFibres empty() {
        return new SectionFibres();
    }

    /** Kind 0 has a stress as high as its strain, from - reach to reach. */
    static SectionFibres straight(int reach) {
        SectionFibres x = new SectionFibres();
        x.point(0, -reach, -reach);
        x.point(0, reach, reach);
        return x;
    }

    /** One fibre of 1 at a place: FORCE is the strain that works on it. */
    static SectionFibres one(int at) {
        SectionFibres x = straight(30_000);
        x.fibre(1, at, 0);
        return x;
    }

    /** One fibre of 10 in the middle: FORCE is 10 E, MOMENT 0; the K that solves is - 20,000. */
    static SectionFibres single() {
        SectionFibres x = straight(30_000);
        x.fibre(10, 0, 0);
        return x;
    }

    /** Fibres of 1 at - 1,000 and 1,000: FORCE is 2 E, MOMENT 2,000 K as long as no row ends. */
    static SectionFibres pair(int reach) {
        SectionFibres x = straight(reach);
        x.fibre(1, -1_000, 0);
        x.fibre(1, 1_000, 0);
        return x;
    }

    /** Four fibres of kinds 0, 0, 1 and 2 (without points), with something of all that can be told. */
    static SectionFibres mixed() {
        SectionFibres x = new SectionFibres();
        x.point(0, -30_000, -300_000);
        x.point(0, 30_000, 300_000);
        x.point(1, -20_000, -1_000);
        x.point(1, 0, 0);
        x.point(1, 10_000, 500_000);
        x.fibre(100, -1_000, 0);
        x.fibre(200, 1_000, 0);
        x.fibre(50, 300, 1);
        x.fibre(7, 0, 2);
        x.born(1, 40);
        x.creeps(1, 50);
        x.shrinks(0, -30);
        x.keeps(2, 70);
        return x;
    }

    /** The mixed section with a plane at hand. */
    static SectionFibres solved() {
        SectionFibres x = mixed();
        x.run(5_000, 3_000_000);
        return x;
    }

    /** The mixed section with 40 fibres and a plane at hand. */
    static SectionFibres full() {
        SectionFibres x = mixed();
        for (int i = 4; i < 40; i++) {
            x.fibre(i, 10 * i, i % 4);
        }
        x.run(5_000, 3_000_000);
        return x;
    }

    /** Every row has 8 points, a fibre of each kind, and a plane at hand. */
    static SectionFibres fullRows() {
        SectionFibres x = new SectionFibres();
        for (int kind = 0; kind < 4; kind++) {
            for (int i = 0; i < 8; i++) {
                x.point(kind, -20_000 + 5_000 * i, -1_000 + 300 * i * (kind + 1));
            }
            x.fibre(10 + kind, 400 * kind, kind);
        }
        x.run(50, 60);
        return x;
    }
}
