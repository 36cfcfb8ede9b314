/** Counts answers that are not due, prints each, and ends the program with 1 if there was one. */
final class Due {
    private final String group;
    private String sentence = "";
    private int sentences;
    private int askedOfSentence;
    private int asked;
    private int wrong;

    Due(String group) {
        this.group = group;
    }

    /** The answers from here on are those that this sentence of the document asks for. */
    void sentence(String words) {
        endSentence();
        sentence = " [" + words + "]";
        sentences++;
        askedOfSentence = 0;
    }

    private void endSentence() {
        if (!sentence.isEmpty() && askedOfSentence == 0) {
            wrong++;
            System.out.println(group + sentence + ": nothing was asked");
        }
    }

    void is(String call, long got, long want) {
        asked++;
        askedOfSentence++;
        if (got != want) {
            wrong++;
            System.out.println(group + sentence + ": " + call + " answered " + got + ", due is " + want);
        }
    }

    void yes(String call, boolean got) {
        is(call, got ? 1 : 0, 1);
    }

    void no(String call, boolean got) {
        is(call, got ? 1 : 0, 0);
    }

    void finish() {
        endSentence();
        String of = sentences == 0 ? "" : sentences + " sentences, ";
        System.out.println(group + ": " + of + asked + " answers, " + wrong + " not as due");
        if (wrong != 0 || asked == 0) {
            System.exit(1);
        }
    }
}
