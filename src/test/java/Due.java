/** Gathers answers that are not as due; a test ends by end(). */
final class Due {
    private final String test;
    private final boolean quiet;
    private int asked;
    private int wrong;

    Due(String test) {
        this(test, false);
    }

    Due(String test, boolean quiet) {
        this.test = test;
        this.quiet = quiet;
    }

    void is(String call, long got, long want) {
        asked++;
        if (got == want) return;
        wrong++;
        if (wrong <= 40 && !quiet) System.out.println(test + ": " + call + " answered " + got + ", due is " + want);
    }

    void so(String what, boolean holds) {
        is(what, holds ? 1 : 0, 1);
    }

    int asked() {
        return asked;
    }

    int wrong() {
        return wrong;
    }

    void end() {
        System.out.println(test + ": " + asked + " answers, " + wrong + " not as due");
        if (wrong != 0) System.exit(1);
    }
}
