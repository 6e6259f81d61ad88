/** What the project's own tests share: it counts the answers that are not the ones that are due. */
final class Check {
    /** A call whose exception is looked at. */
    interface Call {
        void make();
    }

    private static final String NOTHING = "nothing thrown";

    private int made;
    private int wrong;
    private int sentences;

    void is(String call, long got, long want) {
        made++;
        if (got != want) {
            wrong++;
            System.out.println(call + " answered " + got + ", due is " + want);
        }
    }

    void is(String call, boolean got, boolean want) {
        is(call, got ? 1 : 0, want ? 1 : 0);
    }

    void isText(String what, String got, String want) {
        made++;
        if (!got.equals(want)) {
            wrong++;
            System.out.println(what + " is " + got + ", due is " + want);
        }
    }

    /** The exception is of this very class: one of a class below it was thrown by the machine. */
    void isThrown(String call, Class<? extends RuntimeException> want, Call made) {
        isText(call, nameThrown(made), want.getSimpleName());
    }

    void isNoIndex(String call, Call made) {
        isThrown(call, IndexOutOfBoundsException.class, made);
    }

    void isWrongArgument(String call, Call made) {
        isThrown(call, IllegalArgumentException.class, made);
    }

    void isUnsupported(String call, Call made) {
        isThrown(call, UnsupportedOperationException.class, made);
    }

    void isAnswered(String call, Call made) {
        isText(call, nameThrown(made), NOTHING);
    }

    void isNotGood(String call, Call made) {
        isThrown(call, IllegalStateException.class, made);
    }

    /** A sentence of the document, told by its place and words, with a test of its own: it must look at an answer. */
    void sentence(String place, String words, Call test) {
        sentences++;
        int madeBefore = made;
        int wrongBefore = wrong;
        isAnswered("the test itself", test);
        if (wrong != wrongBefore || made == madeBefore + 1) {
            wrong++;
            System.out.println("  this breaks " + place + ": " + words);
        }
    }

    static String nameThrown(Call call) {
        try {
            call.make();
            return NOTHING;
        } catch (RuntimeException e) {
            return e.getClass().getSimpleName();
        }
    }

    /** Ends the test with exit code 1 if an answer was wrong, or if nothing was asked. */
    void end() {
        System.out.println((sentences == 0 ? "" : sentences + " sentences, ")
                + made + " answers looked at, " + wrong + " not as due");
        if (wrong != 0 || made == 0) {
            System.exit(1);
        }
    }
}
