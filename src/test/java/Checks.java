/** Counts the answers that are not as due, and ends the test with exit code 1 if there was one. */
final class Checks {
    private int all = 0;
    private int wrong = 0;
    private String sentence = "";
    private int sentences = 0;
    private int allBefore = 0;

    /** The answers from here on, one at least, are those that these words of the document ask for. */
    void sentence(String words) {
        endSentence();
        sentence = words;
        sentences++;
        allBefore = all;
    }

    private void endSentence() {
        if (sentences == 0 || all != allBefore) return;
        wrong++;
        System.out.println("\"" + sentence + "\" has no test");
    }

    void due(String call, int got, int want) {
        all++;
        if (got == want) return;
        wrong++;
        if (wrong > 50) return;
        if (sentences != 0) System.out.print("\"" + sentence + "\" ");
        System.out.println(call + " answered " + got + ", due is " + want);
    }

    void due(String call, boolean got, boolean want) {
        due(call, got ? 1 : 0, want ? 1 : 0);
    }

    void due(String call, String got, String want) {
        boolean isSame = got.equals(want);
        due(isSame ? call : call + " \"" + got + "\" for \"" + want + "\"", isSame, true);
    }

    void end() {
        endSentence();
        if (sentences != 0) System.out.print(sentences + " sentences, ");
        System.out.println(all + " answers, " + wrong + " not as due");
        if (wrong != 0 || all == 0) System.exit(1);
    }
}
