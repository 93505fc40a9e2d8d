/** Makes a call on one of two equal objects, and looks whether it left that one as the other is. */
final class Twins {
    interface Maker {
        SectionFibres make();
    }

    interface Call {
        long on(SectionFibres x);
    }

    interface Telling {
        boolean on(SectionFibres x);
    }

    private static final int[] STRAINS = {-30_000, -20_000, -7_777, -1, 0, 1, 7, 7_777, 20_000, 30_000};
    private static final int[][] PLANES = {{0, 0}, {13, -70}, {-2_500, 900}, {333, -5_000}, {20_000, 20_000}};

    private final Due due;

    Twins(Due due) {
        this.due = due;
    }

    /** The call has that answer and changes nothing. */
    void answers(String call, Maker maker, long want, Call made) {
        SectionFibres x = maker.make();
        due.is(call, made.on(x), want);
        staysAsItWas(call, maker, x);
    }

    /** The telling is refused by False and changes nothing. */
    void refuses(String call, Maker maker, Telling made) {
        answers(call, maker, 0, x -> made.on(x) ? 1 : 0);
    }

    /** The call throws ArrayIndexOutOfBoundsException and changes nothing. */
    void throwsIndex(String call, Maker maker, Call made) {
        SectionFibres x = maker.make();
        due.throwsIndex(call, () -> made.on(x));
        staysAsItWas(call, maker, x);
    }

    /** The call is not refused: it has that answer, and the plane at hand is gone. */
    SectionFibres takes(String call, Maker maker, long want, Call made) {
        SectionFibres x = maker.make();
        due.is(call + ", a plane was at hand", x.residual(0) != Due.NONE, true);
        due.is(call, made.on(x), want);
        due.is(call + ", told(0) without a plane", x.told(0), Due.BAD);
        due.is(call + ", told(1) without a plane", x.told(1), Due.BAD);
        due.is(call + ", told(2) without a plane", x.told(2), Due.BAD);
        due.is(call + ", residual(0) without a plane", x.residual(0), Due.NONE);
        due.is(call + ", residual(1) without a plane", x.residual(1), Due.NONE);
        due.is(call + ", in(0, 0) without a plane", x.in(0, 0), Due.NONE_E);
        due.is(call + ", in(0, 1) without a plane", x.in(0, 1), Due.NONE_E);
        return x;
    }

    /** The telling is taken by True, and the plane at hand is gone. */
    SectionFibres heeds(String call, Maker maker, Telling made) {
        return takes(call, maker, 1, x -> made.on(x) ? 1 : 0);
    }

    private void staysAsItWas(String call, Maker maker, SectionFibres x) {
        String touched = sight(x);
        String untouched = sight(maker.make());
        if (!touched.equals(untouched)) {
            System.out.println("untouched " + untouched);
            System.out.println("touched   " + touched);
        }
        due.is(call + " changes nothing", touched.equals(untouched), true);
    }

    /** All that an object tells of itself; the plane at hand is looked at before another is solved. */
    private static String sight(SectionFibres x) {
        StringBuilder all = new StringBuilder();
        plane(x, all);
        for (int what = 0; what <= 5; what++) {
            all.append(" count ").append(x.count(what));
        }
        for (int kind = 0; kind < 4; kind++) {
            for (int strain : STRAINS) {
                all.append(" row ").append(x.row(kind, strain));
            }
        }
        for (int[] p : PLANES) {
            all.append(" of ").append(x.of(p[0], p[1], 0)).append(' ').append(x.of(p[0], p[1], 1));
        }
        all.append(" run ").append(x.run(0, 0));
        plane(x, all);
        return all.toString();
    }

    private static void plane(SectionFibres x, StringBuilder all) {
        for (int what = 0; what <= 2; what++) {
            all.append(" told ").append(x.told(what));
        }
        all.append(" residual ").append(x.residual(0)).append(' ').append(x.residual(1));
        int fibres = x.count(0);
        for (int i = 0; i < fibres; i++) {
            all.append(" in ").append(x.in(i, 0)).append(' ').append(x.in(i, 1));
        }
    }
}
