/** What the edge tests share: a sentence of the document, answers held against those that are due by it. */
final class Due {
    static final int NONE = -1000000, BAD = -1000001, STATE = -1000002, FULL = -1000003;
    static final int NULL = -1000011, PLACE = -1000012, KIND = -1000013, SIZE = -1000014, STORE = -1000015;
    static final int LEAST = Integer.MIN_VALUE, MOST = Integer.MAX_VALUE;
    /** Far beyond all that a call takes, where numbers wrap around, too. */
    static final int[] WILD = {LEAST, LEAST + 1, -1000000, 1000000, MOST - 1, MOST};
    /** Behind this piece cost() shows the items of a row: how far two of them are apart, and the price of c. */
    static final String READER = "k7;o0;c0;";

    private String sentence = "";
    private int answers = 0;
    private int wrong = 0;

    /** The sentence that the answers from here on are due by. */
    void says(String words) {
        sentence = words;
    }

    void is(String call, int got, int want) {
        answers++;
        if (got != want) {
            wrong++;
            System.out.println("\"" + sentence + "\": " + call + " answered " + got + ", due is " + want);
        }
    }

    void holds(String what, boolean so) {
        is(what, so ? 1 : 0, 1);
    }

    static int tell(SpelledTones x, String text) {
        for (int i = 0; i < text.length(); i++) {
            x.feed(text.charAt(i));
        }
        return x.piece();
    }

    SpelledTones of(String text) {
        SpelledTones x = new SpelledTones();
        holds("reading " + text, tell(x, text) > 0);
        return x;
    }

    /** A new row with these items. */
    static void items(SpelledTones x, int row, int lane, int... items) {
        x.row(row, lane, items.length);
        for (int i = 0; i < items.length; i++) {
            x.set(row, i, items[i]);
        }
    }

    /** Whether a row has just these items, all of them windows; the piece is READER. */
    void rowIs(SpelledTones x, String what, int row, int... items) {
        for (int i = 0; i + 1 < items.length; i++) {
            int due = Math.abs(items[i] - items[i + 1]) + x.price(1, items[i + 1]);
            is(what + ", items " + i + " and " + (i + 1), x.cost(row, i), due);
        }
        is(what + ", behind its end", x.cost(row, Math.max(0, items.length - 1)), PLACE);
    }

    /** The end of a test: how it went, and exit code 1 if an answer was wrong. */
    void end() {
        System.out.println(wrong == 0 ? answers + " answers are as due" : wrong + " answers are not as due");
        if (wrong != 0) {
            System.exit(1);
        }
    }
}
