/** Counts and prints the answers that are not the ones that are due. */
final class Check {
    private static final int PRINTED = 40;

    private int wrong;
    private int asked;
    private String sentence = "";

    /** The sentence of the document by which the answers asked from here on are due. */
    void by(String told) {
        sentence = told + " | ";
    }

    void due(String call, int got, int want) {
        asked++;
        if (got != want) {
            wrong++;
            if (wrong <= PRINTED) {
                System.out.println(sentence + call + " answered " + got + ", due is " + want);
            }
        }
    }

    void due(String call, boolean got, boolean want) {
        due(call, got ? 1 : 0, want ? 1 : 0);
    }

    void so(String claim, boolean holds) {
        due(claim, holds, true);
    }

    boolean failed() {
        return wrong > 0;
    }

    void close() {
        System.out.println(asked + " answers asked, " + wrong + " wrong");
        if (wrong > 0) {
            System.exit(1);
        }
    }

    /** Feeds a text in pieces of twenty bytes and cuts the blanks off its end. */
    static void tell(NotYet x, String text) {
        for (int at = 0; at < text.length(); at += 20) {
            x.feed(four(text, at), four(text, at + 4), four(text, at + 8), four(text, at + 12), four(text, at + 16));
        }
        x.end(text.length());
    }

    static int four(String text, int at) {
        int number = 0;
        for (int i = at; i < at + 4; i++) {
            number = number << 8 | (i < text.length() ? text.charAt(i) : ' ') & 255;
        }
        return number;
    }

    static int way(NotYet x, int k, String text) {
        tell(x, text);
        return x.way(k);
    }
}
