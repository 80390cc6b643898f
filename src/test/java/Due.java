/** Compares answers with what is due, and tells those that differ. */
final class Due {
    private final String about;
    private String sentence = "";
    private int asked = 0;
    private int askedBefore = 0;
    private int wrong = 0;

    Due(String about) {
        this.about = about;
    }

    /** From here on the answers are about this sentence of the document; each must have one at least. */
    void sentence(String words) {
        endSentence();
        sentence = words;
        askedBefore = asked;
    }

    void is(String call, long got, long want) {
        asked++;
        if (got == want) return;
        tell(call + " answered " + got + ", due is " + want);
    }

    boolean failed() {
        return wrong > 0;
    }

    void end() {
        endSentence();
        System.out.println(about + ": " + asked + " answers, " + wrong + " wrong");
        if (wrong > 0) System.exit(1);
    }

    private void endSentence() {
        if (!sentence.isEmpty() && asked == askedBefore) tell("nothing was asked");
    }

    private void tell(String what) {
        wrong++;
        if (wrong > 50) return;
        System.out.println(about + ": " + (sentence.isEmpty() ? "" : "\"" + sentence + "\": ") + what);
    }
}
