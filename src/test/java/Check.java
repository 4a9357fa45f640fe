/** Counts answers that are not as due, and ends a test by that. */
final class Check {
    private int wrong = 0;
    private int asked = 0;
    private String sentence = "";
    private int askedOfSentence = 1;

    /** What comes until the next such call is the test of this sentence of the document. */
    void says(String words) {
        endSentence();
        sentence = words;
        askedOfSentence = 0;
    }

    private void endSentence() {
        if (askedOfSentence > 0) return;
        wrong++;
        System.out.println("[" + sentence + "] is not tested");
    }

    void due(String call, long got, long want) {
        asked++;
        askedOfSentence++;
        if (got == want) return;
        wrong++;
        String of = sentence.isEmpty() ? "" : "[" + sentence + "] ";
        System.out.println(of + call + " answered " + got + ", due is " + want);
    }

    void end() {
        endSentence();
        System.out.println(asked + " answers, " + wrong + " wrong");
        if (wrong != 0 || asked == 0) System.exit(1);
    }

    static void text(LoofahSaints x, String text) {
        for (int i = 0; i < text.length(); i++) {
            x.feed(text.charAt(i));
        }
    }

    /** Feeds a text and makes it an order: what order() answers. */
    static int order(LoofahSaints x, String text) {
        text(x, text);
        return x.order();
    }

    /** One with these SAINTS, each as {kind, v, holes}, and what is ON the NOVICES. */
    static LoofahSaints with(int[][] saints, int... on) {
        LoofahSaints x = new LoofahSaints();
        for (int[] s : saints) {
            x.saint(s[0], s[1], s[2]);
        }
        for (int n = 0; n < on.length; n++) {
            x.novice(n, 0, on[n]);
        }
        return x;
    }
}
