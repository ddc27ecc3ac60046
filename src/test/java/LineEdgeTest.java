/** Each boundary that the document names of the line: part 2 of the terms up to the price of a chord; promises 14 to 16, 20. */
public final class LineEdgeTest {
    private static final String LETTERS = "fcgdaeb";
    private static final int[] NATURALS = {5, 0, 7, 2, 9, 4, 11};
    private static final Due DUE = new Due();

    public static void main(String[] args) {
        everyPlace();
        placesBeyond();
        everyWindow();
        windowsBeyond();
        everyHead();
        headsBeyond();
        priceOfEveryName();
        halves();
        twoOfOneLetter();
        looseOnes();
        pricesBeyond();
        DUE.end();
    }

    private static int letterAt(int place) {
        return (place + 15) % 7;
    }

    private static int alterAt(int place) {
        return (place + 15) / 7 - 2;
    }

    private static int keyAt(int place) {
        return (NATURALS[letterAt(place)] + alterAt(place) + 12) % 12;
    }

    /** The place of a name such as f, bb, c##: told by the letters alone. */
    private static int placeOf(String name) {
        int alter = name.endsWith("##") ? 2 : name.endsWith("#") ? 1 : name.length() - 1 > 0 ? 1 - name.length() : 0;
        return LETTERS.indexOf(name.charAt(0)) - 1 + 7 * alter;
    }

    private static void everyPlace() {
        DUE.says("THE LINE: places -15 to 19; LETTER 0 to 6, ALTER -2 to 2, KEY 0 to 11");
        SpelledTones x = new SpelledTones();
        for (int p = -15; p <= 19; p++) {
            DUE.is("LETTER of " + p, x.place(p, 0), letterAt(p));
            DUE.is("ALTER of " + p, x.place(p, 1), alterAt(p));
            DUE.is("KEY of " + p, x.place(p, 2), keyAt(p));
        }
        DUE.says("(0 is c, 1 g, -2 b with a flat, 6 f with a sharp.)");
        int[][] told = {{0, 1, 0, 0}, {1, 2, 0, 7}, {-2, 6, -1, 10}, {6, 0, 1, 6}, {-15, 0, -2, 3}, {19, 6, 2, 1}};
        for (int[] t : told) {
            for (int what = 0; what < 3; what++) {
                DUE.is("place(" + t[0] + ", " + what + ")", x.place(t[0], what), t[1 + what]);
            }
        }
    }

    private static void placesBeyond() {
        DUE.says("Of a place of THE LINE (-15 to 19): 0 its LETTER, 1 ALTER, 2 KEY. BAD.");
        SpelledTones x = new SpelledTones();
        for (int what = -1; what <= 3; what++) {
            DUE.is("place(-16, " + what + ")", x.place(-16, what), Due.BAD);
            DUE.is("place(20, " + what + ")", x.place(20, what), Due.BAD);
        }
        for (int v : Due.WILD) {
            DUE.is("place(" + v + ", 0)", x.place(v, 0), Due.BAD);
            DUE.is("place(0, " + v + ")", x.place(0, v), Due.BAD);
        }
        for (int p = -15; p <= 19; p++) {
            DUE.is("place(" + p + ", -1)", x.place(p, -1), Due.BAD);
            DUE.is("place(" + p + ", 3)", x.place(p, 3), Due.BAD);
        }
    }

    private static void everyWindow() {
        DUE.says("A WINDOW w (-15 to 8): places w to w and 11; .. the one of these whose KEY it has");
        SpelledTones x = new SpelledTones();
        for (int w = -15; w <= 8; w++) {
            for (int p = w; p <= w + 11; p++) {
                DUE.is("inWindow(" + w + ", " + keyAt(p) + ")", x.inWindow(w, keyAt(p)), p);
            }
        }
    }

    private static void windowsBeyond() {
        DUE.says("The place in a WINDOW (-15 to 8) that has a KEY. BAD.");
        SpelledTones x = new SpelledTones();
        for (int key = -1; key <= 12; key++) {
            DUE.is("inWindow(-16, " + key + ")", x.inWindow(-16, key), Due.BAD);
            DUE.is("inWindow(9, " + key + ")", x.inWindow(9, key), Due.BAD);
        }
        for (int w = -15; w <= 8; w++) {
            DUE.is("inWindow(" + w + ", -1)", x.inWindow(w, -1), Due.BAD);
            DUE.is("inWindow(" + w + ", 12)", x.inWindow(w, 12), Due.BAD);
        }
        for (int v : Due.WILD) {
            DUE.is("inWindow(" + v + ", 0)", x.inWindow(v, 0), Due.BAD);
            DUE.is("inWindow(0, " + v + ")", x.inWindow(0, v), Due.BAD);
        }
    }

    private static void everyHead() {
        DUE.says("HEAD of a LETTER: 1, if it is less than s; -1, if it is 7 and s or more; else 0");
        for (int signature = 0; signature <= 14; signature++) {
            SpelledTones x = DUE.of("k" + signature + ";c0;");
            int sharps = Math.max(0, signature - 7);
            int flats = Math.max(0, 7 - signature);
            for (int letter = 0; letter < 7; letter++) {
                int due = letter < sharps ? 1 : 6 - letter < flats ? -1 : 0;
                DUE.is("head(" + letter + ") by " + signature, x.head(letter), due);
            }
        }
    }

    private static void headsBeyond() {
        DUE.says("HEAD of a LETTER (0 to 6). BAD (without a PIECE, too).");
        SpelledTones x = DUE.of("k14;c0;");
        DUE.is("head(-1)", x.head(-1), Due.BAD);
        DUE.is("head(7)", x.head(7), Due.BAD);
        for (int v : Due.WILD) {
            DUE.is("head(" + v + ")", x.head(v), Due.BAD);
        }
        SpelledTones none = new SpelledTones();
        for (int letter = -1; letter <= 7; letter++) {
            DUE.is("head(" + letter + ") without a PIECE", none.head(letter), Due.BAD);
        }
        Due.tell(none, "k7;c");
        DUE.is("behind a FAULT", none.head(0), Due.BAD);
    }

    /** Each key in each window, by each signature, of each kind: a chord of one note. */
    private static void priceOfEveryName() {
        DUE.says("PRICE of a NAME: twice how far its ALTER is from HEAD of its LETTER (above 0)");
        for (int signature = 0; signature <= 14; signature++) {
            for (int key = 0; key < 12; key++) {
                SpelledTones x = DUE.of("k" + signature + ";c" + key + ";r" + key + ";l" + key + ";h" + key + ";o" + key + ";");
                for (int w = -15; w <= 8; w++) {
                    int p = x.inWindow(w, key);
                    int far = Math.abs(alterAt(p) - x.head(letterAt(p)));
                    int[] due = {2 * far, alterAt(p) > 0 ? far : 2 * far, alterAt(p) < 0 ? far : 2 * far, 2 * far, 0};
                    for (int chord = 0; chord < 5; chord++) {
                        DUE.is("price(" + chord + ", " + w + ") of " + key + " by " + signature, x.price(chord, w), due[chord]);
                    }
                }
            }
        }
    }

    /** The price of one name as a chord of a sort: in the window that begins with it. */
    private static int priceOf(String sort, int signature, String name) {
        int place = placeOf(name);
        int window = Math.min(8, place);
        return DUE.of("k" + signature + ";" + sort + keyAt(place) + ";").price(0, window);
    }

    private static void halves() {
        DUE.says("of a rising CHORD half of that, if ALTER is above 0; of a falling one half, if ALTER is below 0");
        DUE.is("f sharp, rising", priceOf("r", 7, "f#"), 1);
        DUE.is("f double sharp, rising", priceOf("r", 7, "f##"), 2);
        DUE.is("f double sharp by seven sharps, rising", priceOf("r", 14, "f##"), 1);
        DUE.is("f by seven sharps, rising: ALTER is 0", priceOf("r", 14, "f"), 2);
        DUE.is("f flat by seven sharps, rising: ALTER is below 0", priceOf("r", 14, "fb"), 4);
        DUE.is("b by seven flats, rising: ALTER is 0", priceOf("r", 0, "b"), 2);
        DUE.is("b flat, rising", priceOf("r", 7, "bb"), 2);
        DUE.is("b sharp by seven flats, rising", priceOf("r", 0, "b#"), 2);
        DUE.is("b double sharp by seven flats, rising", priceOf("r", 0, "b##"), 3);
        DUE.is("b flat, falling", priceOf("l", 7, "bb"), 1);
        DUE.is("f double flat, falling", priceOf("l", 7, "fbb"), 2);
        DUE.is("f double flat by seven flats, falling", priceOf("l", 0, "fbb"), 1);
        DUE.is("b by seven flats, falling: ALTER is 0", priceOf("l", 0, "b"), 2);
        DUE.is("b sharp by seven flats, falling: ALTER is above 0", priceOf("l", 0, "b#"), 4);
        DUE.is("f by seven sharps, falling: ALTER is 0", priceOf("l", 14, "f"), 2);
        DUE.is("f double flat by seven sharps, falling", priceOf("l", 14, "fbb"), 3);
        DUE.is("f double flat by seven sharps, plain", priceOf("c", 14, "fbb"), 6);
        DUE.is("b double sharp by seven flats, held", priceOf("h", 0, "b##"), 6);
        DUE.is("b double sharp by seven flats, loose", priceOf("o", 0, "b##"), 0);
    }

    private static void twoOfOneLetter() {
        DUE.says("5 for each two NOTES of one LETTER, together");
        // From -2 on there are b flat, f, c, g, d, a, e, b, f sharp, c sharp, g sharp, d sharp.
        DUE.is("c, c sharp", DUE.of("k7;c0,1;").price(0, -2), 5 + 2);
        DUE.is("c, c sharp, rising: the five is not halved", DUE.of("k7;r0,1;").price(0, -2), 5 + 1);
        DUE.is("b flat, b, falling: the five is not halved", DUE.of("k7;l10,11;").price(0, -2), 5 + 1);
        DUE.is("c, c sharp, held", DUE.of("k7;h0,1;").price(0, -2), 5 + 2);
        DUE.is("c, d flat", DUE.of("k7;c0,1;").price(0, -6), 2);
        DUE.is("c, c sharp, d, d sharp: two and two", DUE.of("k7;c0,1,2,3;").price(0, -2), 10 + 4);
        DUE.is("c, c sharp, e, g", DUE.of("k7;c0,1,4,7;").price(0, -2), 5 + 2);
        SpelledTones x = DUE.of("k7;c0,4,7,9;c0;");
        DUE.is("four letters", x.price(0, -2), 0);
        x.key(1, 0);
        DUE.is("two of one", x.price(0, -2), 5);
        x.key(2, 0);
        DUE.is("three of one", x.price(0, -2), 15);
        x.key(3, 0);
        DUE.is("four of one", x.price(0, -2), 30);
        x.key(0, 9);
        x.key(1, 9);
        DUE.is("two of one, two of another", x.price(0, -2), 10);
        DUE.is("another chord has its own", x.price(1, -2), 0);
        for (int place : new int[] {-1, 5}) {
            int key = keyAt(place);
            for (int note = 0; note < 4; note++) {
                x.key(note, key);
            }
            DUE.is("four of letter " + letterAt(place), x.price(0, -2), 30);
        }
    }

    private static void looseOnes() {
        DUE.says("PRICE of a CHORD by a WINDOW .. of a loose one 0");
        SpelledTones x = DUE.of("k14;o0,1,2,3;");
        for (int w = -15; w <= 8; w++) {
            DUE.is("price(0, " + w + ")", x.price(0, w), 0);
        }
        x.key(1, 0);
        DUE.is("two alike", x.price(0, 0), 0);
        DUE.is("PRICE by BEST", x.chord(0, 3), 0);
        x.become(0, 4);
        DUE.holds("not so of a held one", x.price(0, 0) > 0);
    }

    private static void pricesBeyond() {
        DUE.says("PRICE of a CHORD by a WINDOW (-15 to 8). BAD.");
        SpelledTones x = DUE.of("k7;c0;o1;");
        for (int chord = -1; chord <= 2; chord++) {
            boolean is = chord == 0 || chord == 1;
            DUE.is("price(" + chord + ", -16)", x.price(chord, -16), Due.BAD);
            DUE.is("price(" + chord + ", 9)", x.price(chord, 9), Due.BAD);
            DUE.holds("price(" + chord + ", -15)", is == x.price(chord, -15) >= 0);
            DUE.holds("price(" + chord + ", 8)", is == x.price(chord, 8) >= 0);
            DUE.holds("BAD of " + chord, is || x.price(chord, 0) == Due.BAD);
        }
        for (int v : Due.WILD) {
            DUE.is("price(" + v + ", 0)", x.price(v, 0), Due.BAD);
            DUE.is("price(0, " + v + ")", x.price(0, v), Due.BAD);
        }
        DUE.is("without a PIECE", new SpelledTones().price(0, 0), Due.BAD);
    }
}
