/** Compares answers with those that are due, and tells in the end whether all were right. */
final class Due {
    /** A call of the class that may throw. */
    interface Call {
        long answer();
    }

    private int right = 0;
    private int wrong = 0;

    void is(String call, long got, long want) {
        if (got == want) {
            right++;
        } else {
            wrong++;
            System.out.println(call + " answered " + got + ", due is " + want);
        }
    }

    void is(String call, boolean got, boolean want) {
        is(call, got ? 1 : 0, want ? 1 : 0);
    }

    /** The very class is asked for, as a class above or below it is another answer. */
    void throwsIndex(String call, Call made) {
        String thrown = "nothing";
        try {
            made.answer();
        } catch (RuntimeException e) {
            thrown = e.getClass().getName();
        }
        boolean asDue = thrown.equals("java.lang.ArrayIndexOutOfBoundsException");
        if (!asDue) {
            System.out.println(call + " threw " + thrown);
        }
        is(call + " throws", asDue, true);
    }

    void end(String test) {
        System.out.println(test + ": " + right + " answers as due, " + wrong + " not");
        if (wrong != 0) {
            System.exit(1);
        }
    }
}
