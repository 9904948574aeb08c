/** Compares answers with those that are due and tells at the end whether all were right. */
final class Check {
    private int wrong;
    private int seen;
    private String sentence;

    /** The sentence of the document that the answers from here on are held to. */
    void about(String sentence) {
        this.sentence = sentence;
    }

    void due(String call, int got, int want) {
        seen++;
        if (got != want) {
            wrong++;
            if (sentence != null) {
                System.out.println("\"" + sentence + "\"");
            }
            System.out.println(call + " answered " + got + ", due is " + want);
        }
    }

    void yes(String call, boolean got) {
        due(call, got ? 1 : 0, 1);
    }

    void no(String call, boolean got) {
        due(call, got ? 1 : 0, 0);
    }

    void end() {
        System.out.println(seen + " answers, " + wrong + " of them wrong");
        if (wrong != 0 || seen == 0) {
            System.exit(1);
        }
    }
}
