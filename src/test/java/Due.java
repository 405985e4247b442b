/** Counts the answers of one test that are not as due, and ends it. */
final class Due {
    private final String test;
    private String sentence = "";
    private int sentences;
    private int asked;
    private int wrong;

    Due(String test) {
        this.test = test;
    }

    /** What is asked next stands for this sentence of the document. */
    void sentence(String words) {
        sentence = " [" + words + "]";
        sentences++;
    }

    void is(String call, int got, int want) {
        asked++;
        if (got != want) {
            wrong++;
            System.out.println(test + ": " + call + " answered " + got + ", due is " + want + sentence);
        }
    }

    void yes(String call, boolean got) {
        is(call, got ? 1 : 0, 1);
    }

    void no(String call, boolean got) {
        is(call, got ? 1 : 0, 0);
    }

    boolean isWrong() {
        return wrong > 0;
    }

    void end() {
        String of = sentences == 0 ? "" : " to " + sentences + (sentences == 1 ? " sentence" : " sentences");
        System.out.println(test + ": " + asked + " answers" + of + ", " + wrong + " not as due");
        System.exit(wrong == 0 ? 0 : 1);
    }
}
