/** Counts the answers that are not as due, and ends the test with exit code 1 if there was one. */
final class Checks {
    private int all = 0;
    private int wrong = 0;

    void due(String call, int got, int want) {
        all++;
        if (got == want) return;
        wrong++;
        if (wrong <= 50) System.out.println(call + " answered " + got + ", due is " + want);
    }

    void due(String call, boolean got, boolean want) {
        due(call, got ? 1 : 0, want ? 1 : 0);
    }

    void end() {
        System.out.println(all + " answers, " + wrong + " not as due");
        if (wrong != 0 || all == 0) System.exit(1);
    }
}
