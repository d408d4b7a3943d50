/** Counts the answers that are not as due, prints them, and ends the program with 1 if there was one. */
final class Check {
    private final String test;
    private int asked = 0;
    private int wrong = 0;

    Check(String test) {
        this.test = test;
    }

    void due(String call, long got, long want) {
        asked++;
        if (got != want) {
            wrong++;
            if (wrong <= 40) {
                System.out.println(test + ": " + call + " answered " + got + ", due is " + want);
            }
        }
    }

    void due(String call, boolean got, boolean want) {
        due(call, got ? 1 : 0, want ? 1 : 0);
    }

    /** An answer that is due with STATUS 0. */
    void gives(SorryWalk x, String call, long got, long want) {
        due(call, got, want);
        due("status() behind " + call, x.status(), 0);
    }

    void yes(SorryWalk x, String call, boolean got) {
        due(call, got, true);
        due("status() behind " + call, x.status(), 0);
    }

    /** A call that is due to be refused: NONE, and this STATUS. */
    void refused(SorryWalk x, String call, long got, int status) {
        due(call, got, -1);
        due("status() behind " + call, x.status(), status);
    }

    void denied(SorryWalk x, String call, boolean got, int status) {
        due(call, got, false);
        due("status() behind " + call, x.status(), status);
    }

    /** Something was asked, and all answers were as due. */
    boolean isGood() {
        return asked > 0 && wrong == 0;
    }

    void end() {
        System.out.println(test + ": " + asked + " answers, " + wrong + " not as due");
        if (!isGood()) {
            System.exit(1);
        }
    }
}
