/** Compares answers with those that are due, prints the wrong ones and ends the test. */
final class Check {
    private static final int MOST_PRINTED = 40;

    private int wrong = 0;
    private String about = "";

    /** The sentence of the document to which the answers that follow belong. */
    void about(String sentence) {
        about = "\"" + sentence + "\": ";
    }

    void due(String call, long got, long want) {
        if (got != want) {
            wrong++;
            if (wrong <= MOST_PRINTED) {
                System.out.println(about + call + " answered " + got + ", due is " + want);
            }
        }
    }

    void due(String call, boolean got, boolean want) {
        due(call, got ? 1 : 0, want ? 1 : 0);
    }

    /** All that can be asked without a step and without the power. */
    void same(String when, Shot got, Shot want) {
        for (int p = 0; p < Words.PLACES; p++) {
            due(when + ": peek(" + p + ")", got.disk[p], want.disk[p]);
        }
        for (int k = 0; k < 4; k++) {
            due(when + ": seal(" + k + ")", got.seal[k], want.seal[k]);
        }
    }

    void end() {
        System.out.println(wrong == 0 ? "all answers are as due" : wrong + " answers are not as due");
        if (wrong != 0) {
            System.exit(1);
        }
    }
}
