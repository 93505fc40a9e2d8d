/** Compares answers with those that are due, and tells in the end whether all were right. */
final class Due {
    static final int BAD = -1;
    static final int NONE_E = -1_000_000;
    static final long NONE = -4_611_686_018_427_387_904L;

    /** A call of the class that may throw. */
    interface Call {
        long answer();
    }

    private String sentence = "";
    private int right = 0;
    private int wrong = 0;

    /** The answers from here on are due by this sentence of the document. */
    void sentence(String words) {
        sentence = "'" + words + "': ";
    }

    void is(String call, long got, long want) {
        if (got == want) {
            right++;
        } else {
            wrong++;
            System.out.println(sentence + call + " answered " + got + ", due is " + want);
        }
    }

    void is(String call, boolean got, boolean want) {
        is(call, got ? 1 : 0, want ? 1 : 0);
    }

    /**
     * The very class is asked for, as a class above or below it is another answer. A throw statement
     * has to throw it: the machine's own text, of an index that was not looked at, begins with Index.
     */
    void throwsIndex(String call, Call made) {
        String thrown = "nothing";
        boolean byItself = false;
        try {
            made.answer();
        } catch (RuntimeException e) {
            thrown = e.toString();
            byItself = e.getMessage() != null && e.getMessage().startsWith("Index ");
        }
        boolean asDue = thrown.startsWith("java.lang.ArrayIndexOutOfBoundsException") && !byItself;
        if (!asDue) {
            System.out.println(sentence + call + " threw " + thrown);
        }
        is(call + " throws", asDue, true);
    }

    void end(String test) {
        System.out.println(test + ": " + right + " answers as due, " + wrong + " not");
        if (wrong != 0) {
            System.exit(1);
        }
    }
}
