/** What the tests share: answers held against those that are due, counted, and told at the end. */
final class Check {
    /** A call whose answer is wanted; a boolean counts 1 or 0. */
    interface Call {
        long answer();
    }

    private int wrong = 0;
    private String sentence = "";

    /** The document's sentence that the answers from now on are due by. */
    void by(String words) {
        sentence = "\"" + words + "\": ";
    }

    void due(String call, long got, long want) {
        if (got != want) {
            tell(call + " answered " + got + ", due is " + want);
        }
    }

    void due(String call, boolean got, boolean want) {
        if (got != want) {
            tell(call + " answered " + got + ", due is " + want);
        }
    }

    /** The very class is due: a class below it would be the machine's own throw. */
    void dueThrow(String call, Class<? extends RuntimeException> want, Call made) {
        String got;
        try {
            got = "answered " + made.answer();
        } catch (RuntimeException e) {
            if (e.getClass() == want) {
                return;
            }
            got = "threw " + e.getClass().getName();
        }
        tell(call + " " + got + ", due is a throw of " + want.getName());
    }

    void tell(String fault) {
        wrong++;
        System.out.println(sentence + fault);
    }

    void end() {
        System.out.println(wrong == 0 ? "all answers are as due" : wrong + " answers are not as due");
        if (wrong != 0) {
            System.exit(1);
        }
    }

    /** All that told answers, each held against what is due: the places 0 .. 7. */
    void dueTold(String when, PortDesk desk, long... want) {
        for (int which = 0; which < want.length; which++) {
            due(when + ": told(" + which + ")", desk.told(which), want[which]);
        }
    }

    static void makeMany(PortDesk desk, int kind, int many) {
        for (int i = 0; i < many; i++) {
            desk.make(kind);
        }
    }

    private static final int[] OUTSIDE = {Integer.MIN_VALUE, -100, -2, -1, Integer.MAX_VALUE};

    /** Places that are outside 0 .. limit - 1. */
    static int[] outside(int limit) {
        int[] all = java.util.Arrays.copyOf(OUTSIDE, OUTSIDE.length + 3);
        all[OUTSIDE.length] = limit;
        all[OUTSIDE.length + 1] = limit + 1;
        all[OUTSIDE.length + 2] = limit + 64;
        return all;
    }
}
