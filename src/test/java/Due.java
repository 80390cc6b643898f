/** Compares answers with what is due, and tells those that differ. */
final class Due {
    private final String about;
    private int asked = 0;
    private int wrong = 0;

    Due(String about) {
        this.about = about;
    }

    void is(String call, long got, long want) {
        asked++;
        if (got == want) return;
        wrong++;
        if (wrong <= 50) {
            System.out.println(about + ": " + call + " answered " + got + ", due is " + want);
        }
    }

    boolean failed() {
        return wrong > 0;
    }

    void end() {
        System.out.println(about + ": " + asked + " answers, " + wrong + " wrong");
        if (wrong > 0) System.exit(1);
    }
}
