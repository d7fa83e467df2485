/** What the tests share: counting of wrong answers, and the name of what a call throws. */
final class Check {
    interface Call {
        long run();
    }

    private int wrong;
    private String about = "";

    /** What the next answers are about; it is told with each wrong one. */
    void about(String text) {
        about = text + ": ";
    }

    /** The answer as a text, or the simple name of the exception. */
    static String answer(Call call) {
        try {
            return Long.toString(call.run());
        } catch (RuntimeException e) {
            return e.getClass().getSimpleName();
        }
    }

    void due(String what, long got, long want) {
        due(what, Long.toString(got), Long.toString(want));
    }

    void due(String what, String got, String want) {
        if (!got.equals(want)) {
            wrong++;
            System.out.println(about + what + " answered " + got + ", due is " + want);
        }
    }

    void dueTrue(String what, boolean got) {
        due(what, Boolean.toString(got), "true");
    }

    /** The call throws this, and the object tells the same hash and saved states as before. */
    void dueThrow(String what, NotchedKeys x, Call call, Class<? extends RuntimeException> want) {
        long before = x.digest();
        due(what, answer(call), want.getSimpleName());
        due("digest() behind " + what, x.digest(), before);
    }

    void end() {
        if (wrong != 0) {
            System.out.println(wrong + " answers are not as due");
            System.exit(1);
        }
    }
}
