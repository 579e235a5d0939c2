/** Counts the answers that are not as due, and ends a test with exit code 1 if there were any. */
final class Due {
    private final String test;
    private int asked = 0;
    private int wrong = 0;

    Due(String test) {
        this.test = test;
    }

    void is(String call, long got, long want) {
        asked++;
        if (got == want) return;
        wrong++;
        System.out.println(test + ": " + call + " answered " + got + ", due is " + want);
    }

    int wrong() {
        return wrong;
    }

    void end() {
        System.out.println(test + ": " + asked + " answers, " + wrong + " not as due");
        if (wrong != 0) System.exit(1);
    }

    /** Puts a text behind THE TAPE. */
    static void feed(PaidInKind x, String letters) {
        for (int i = 0; i < letters.length(); i++) x.feed(letters.charAt(i));
    }

    /** What text() answers to a text. */
    static int text(PaidInKind x, String letters) {
        feed(x, letters);
        return x.text();
    }
}
