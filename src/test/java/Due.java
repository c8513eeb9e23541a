/** Compares answers with those that are due, tells the wrong ones, and ends the test. */
final class Due {
    private final String about;
    private int asked;
    private int wrong;

    Due() {
        this("");
    }

    /** Each wrong answer is told with these words before it. */
    Due(String about) {
        this.about = about;
    }

    void is(String call, int got, int want) {
        asked++;
        if (got != want) {
            wrong++;
            System.out.println(about + call + " answered " + got + ", due is " + want);
        }
    }

    void is(String call, boolean got, boolean want) {
        asked++;
        if (got != want) {
            wrong++;
            System.out.println(about + call + " answered " + got + ", due is " + want);
        }
    }

    void yes(String call, boolean got) {
        is(call, got, true);
    }

    void no(String call, boolean got) {
        is(call, got, false);
    }

    int wrong() {
        return wrong;
    }

    /** A test that asked nothing has failed too. */
    boolean holds() {
        if (wrong > 0 || asked == 0) {
            System.out.println(about + wrong + " of " + asked + " answers are not as due");
            return false;
        }
        return true;
    }

    void end() {
        if (!holds()) {
            System.exit(1);
        }
    }
}
