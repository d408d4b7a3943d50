/**
 * Boundary cases, each a test of its own: it is named by the sentence of the document that it is about, is counted,
 * and fails alone.
 */
final class Cases {
    /** What a case asks; its answers are counted by the Check of that case. */
    interface Case {
        void ask(Check check);
    }

    private final String test;
    private int cases = 0;
    private int failed = 0;

    Cases(String test) {
        this.test = test;
    }

    void edge(String sentence, Case one) {
        cases++;
        Check check = new Check(test + ", " + sentence);
        one.ask(check);
        if (!check.isGood()) {
            failed++;
            System.out.println(test + ": FAILED " + sentence);
        }
    }

    void end() {
        System.out.println(test + ": " + cases + " cases, " + failed + " failed");
        if (failed != 0 || cases == 0) {
            System.exit(1);
        }
    }
}
