/** Counts the answers that are not the due ones, and ends a test with exit code 1 if there was one. */
final class Due {

    private final String test;
    private int asked = 0;
    private int wrong = 0;

    Due(String test) {
        this.test = test;
    }

    void is(String call, long got, long want) {
        asked++;
        if (got != want) {
            wrong++;
            System.out.println(call + " answered " + got + ", due is " + want);
        }
    }

    void holds(String what, boolean holds) {
        asked++;
        if (!holds) {
            wrong++;
            System.out.println("does not hold: " + what);
        }
    }

    int wrong() {
        return wrong;
    }

    /** Asks for the whole text of a process, sign by sign, and for the place behind it. */
    void text(NamePassingComparer c, int p, String want) {
        is("textLength(" + p + ")", c.textLength(p), want.length());
        for (int i = 0; i < want.length(); i++) {
            is("textAt(" + p + ", " + i + ") of " + want, c.textAt(p, i), want.charAt(i));
        }
        is("textAt(" + p + ", length)", c.textAt(p, want.length()), NamePassingComparer.NOT_FOUND);
    }

    void end() {
        System.out.println(test + ": " + asked + " answers, " + wrong + " not as due");
        if (wrong != 0 || asked == 0) {
            System.exit(1);
        }
    }
}
