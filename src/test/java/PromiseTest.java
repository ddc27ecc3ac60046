/** For each promise of the document: ordinary inputs, the edges that it names, wrong inputs. */
public final class PromiseTest {
    private static final int NONE = SpelledTones.NONE, BAD = SpelledTones.BAD;
    private static final int STATE = SpelledTones.STATE, FULL = SpelledTones.FULL;
    private static final int NULL = -1000011, PLACE = -1000012, KIND = -1000013, SIZE = -1000014, STORE = -1000015;
    private static final int LEAST = Integer.MIN_VALUE, MOST = Integer.MAX_VALUE;
    private static final String SEVEN = "k9;c2,6,9;r1,7;b;h4,10;f;l0,3,8;b;f;o1,6;c11;r6,8;";
    private static int wrong = 0;

    public static void main(String[] args) {
        aNewObject();
        row();
        set();
        copy();
        drop();
        feed();
        piece();
        fault();
        key();
        become();
        sign();
        shift();
        undo();
        place();
        inWindow();
        head();
        note();
        chord();
        whole();
        price();
        cost();
        fits();
        drawn();
        image();
        restore();
        kind();
        as();
        ask();
        trace();
        count();
        status();
        System.out.println(wrong == 0 ? "all promises hold" : wrong + " answers are not as promised");
        if (wrong != 0) {
            System.exit(1);
        }
    }

    private static void due(int promise, String what, int got, int want) {
        if (got != want) {
            wrong++;
            System.out.println("promise " + promise + ": " + what + " answered " + got + ", due is " + want);
        }
    }

    private static int tell(SpelledTones x, String text) {
        for (int i = 0; i < text.length(); i++) {
            x.feed(text.charAt(i));
        }
        return x.piece();
    }

    private static SpelledTones of(String text) {
        SpelledTones x = new SpelledTones();
        if (tell(x, text) < 1) {
            wrong++;
            System.out.println("not read: " + text);
        }
        return x;
    }

    /** A new row 0 of ints. */
    private static void items(SpelledTones x, int... items) {
        x.row(0, 2, items.length);
        for (int i = 0; i < items.length; i++) {
            x.set(0, i, items[i]);
        }
    }

    private static void aNewObject() {
        SpelledTones x = new SpelledTones();
        for (int what = 0; what < 6; what++) {
            due(1, "count(" + what + ")", x.count(what), 0);
        }
        due(1, "whole(0)", x.whole(0), STATE);
        due(1, "whole(9) without a piece", x.whole(9), STATE);
        due(1, "kind(0)", x.kind(0), BAD);
        due(1, "fault()", x.fault(), 0);
        due(1, "status()", x.status(), 0);
        due(1, "trace(0)", x.trace(0), NONE);
        due(1, "undo()", x.undo(), STATE);
        due(1, "restore(1)", x.restore(1), STATE);
        due(1, "NONE", NONE, -1000000);
        due(1, "BAD", BAD, -1000001);
        due(1, "STATE", STATE, -1000002);
        due(1, "FULL", FULL, -1000003);
    }

    private static void row() {
        SpelledTones x = new SpelledTones();
        due(2, "row(7, 2, 40)", x.row(7, 2, 40), 40);
        due(2, "row(0, 0, 0)", x.row(0, 0, 0), 0);
        due(2, "count(0)", x.count(0), 2);
        due(2, "a row without items has no place 0", x.set(0, 0, 1), PLACE);
        x.set(7, 3, 5);
        due(2, "row(7, 1, 4) in place of it", x.row(7, 1, 4), 4);
        due(2, "it has its new lane", x.set(7, 2, 70000), 4464);
        due(2, "it has its new length", x.set(7, 4, 1), PLACE);
        // By BEST key 5 is f, letter 0: an item that is 0 fits, no other one does.
        SpelledTones y = of("k7;c5;");
        y.row(1, 2, 1);
        due(2, "items are 0 at first", y.fits(0, 1, 1, 0) >> 7 & 1, 1);
        y.set(1, 0, 9);
        due(2, "not so now", y.fits(0, 1, 1, 0) >> 7 & 1, 0);
        y.row(1, 2, 1);
        due(2, "items are 0 again", y.fits(0, 1, 1, 0) >> 7 & 1, 1);
        due(2, "row(8, ..)", x.row(8, 0, 1), BAD);
        due(2, "row(-1, ..)", x.row(-1, 0, 1), BAD);
        due(2, "lane 3", x.row(1, 3, 1), BAD);
        due(2, "lane -1", x.row(1, -1, 1), BAD);
        due(2, "41 items", x.row(1, 0, 41), BAD);
        due(2, "-1 items", x.row(1, 0, -1), SIZE);
        due(2, "least items", x.row(1, 0, LEAST), SIZE);
        due(2, "BAD is ahead of SIZE", x.row(1, 3, -1), BAD);
        due(2, "nothing was made", x.count(0), 2);
        x.row(7, 0, -1);
        due(2, "what is there stays behind SIZE", x.set(7, 3, 200), 200);
    }

    private static void set() {
        SpelledTones x = new SpelledTones();
        x.row(0, 0, 3);
        x.row(1, 1, 3);
        x.row(2, 2, 3);
        due(3, "a byte", x.set(0, 0, 127), 127);
        due(3, "a byte, 128", x.set(0, 0, 128), -128);
        due(3, "a byte, 256", x.set(0, 2, 256), 0);
        due(3, "a short", x.set(1, 0, 32767), 32767);
        due(3, "a short, 32768", x.set(1, 2, 32768), -32768);
        due(3, "an int", x.set(2, 1, LEAST), LEAST);
        due(3, "place 3", x.set(0, 3, 0), PLACE);
        due(3, "place -1", x.set(0, -1, 0), PLACE);
        due(3, "place most", x.set(0, MOST, 0), PLACE);
        due(3, "place least", x.set(0, LEAST, 0), PLACE);
        due(3, "a missing row", x.set(3, 0, 0), NULL);
        due(3, "a missing row, no place", x.set(3, -1, 0), NULL);
        due(3, "row 8", x.set(8, 0, 0), BAD);
        due(3, "row -1", x.set(-1, 0, 0), BAD);
    }

    /** The items of row 0 can be seen by what they cost: chord by chord the windows stand apart. */
    private static void copy() {
        SpelledTones x = of("k7;c0;c0;c0;c0;");
        items(x, -11, -9, -6, -2, 0, 0);
        due(4, "cost of -11 -9 -6 -2", x.cost(0, 0), 9);
        due(4, "onto itself, forwards", x.copy(0, 0, 0, 1, 3), 3);
        due(4, "now -11 -11 -9 -6", x.cost(0, 0), 5);
        items(x, -11, -9, -6, -2);
        due(4, "onto itself, backwards", x.copy(0, 1, 0, 0, 3), 3);
        due(4, "now -9 -6 -2 -2", x.cost(0, 0), 7);
        x.row(1, 2, 4);
        due(4, "to another row", x.copy(0, 0, 1, 0, 4), 4);
        due(4, "as they were", x.cost(1, 0), 7);
        due(4, "no items, at the ends", x.copy(0, 4, 1, 4, 0), 0);
        due(4, "no items, beyond an end", x.copy(0, 5, 1, 0, 0), PLACE);
        due(4, "no items, beyond the other end", x.copy(0, 0, 1, 5, 0), PLACE);
        due(4, "n -1", x.copy(0, 0, 1, 0, -1), PLACE);
        due(4, "i -1", x.copy(0, -1, 1, 0, 1), PLACE);
        due(4, "j -1", x.copy(0, 0, 1, -1, 1), PLACE);
        due(4, "5 of 4", x.copy(0, 0, 1, 0, 5), PLACE);
        due(4, "most of them", x.copy(0, 1, 1, 1, MOST), PLACE);
        due(4, "from most", x.copy(0, MOST, 1, 1, MOST), PLACE);
        x.row(2, 1, 4);
        due(4, "two lanes", x.copy(0, 0, 2, 0, 1), STORE);
        due(4, "two lanes, no place", x.copy(0, -1, 2, 0, 1), STORE);
        due(4, "a is missing", x.copy(3, 0, 0, 0, 1), NULL);
        due(4, "b is missing", x.copy(0, 0, 3, 0, 1), NULL);
        due(4, "row 8", x.copy(8, 0, 0, 0, 1), BAD);
        due(4, "row -1, the other missing", x.copy(3, 0, -1, 0, 1), BAD);
        due(4, "all as it was", x.cost(1, 0), 7);
    }

    private static void drop() {
        SpelledTones x = new SpelledTones();
        x.row(0, 1, 40);
        x.row(1, 1, 0);
        due(5, "drop(0)", x.drop(0), 40);
        due(5, "drop(1)", x.drop(1), 0);
        due(5, "count(0)", x.count(0), 0);
        due(5, "drop(0) again", x.drop(0), NULL);
        due(5, "set of a dropped one", x.set(0, 0, 1), NULL);
        due(5, "drop(8)", x.drop(8), BAD);
        due(5, "drop(-1)", x.drop(-1), BAD);
    }

    private static void feed() {
        SpelledTones x = new SpelledTones();
        due(6, "feed(-1)", x.feed(-1), BAD);
        due(6, "feed(256)", x.feed(256), BAD);
        due(6, "feed(0)", x.feed(0), 1);
        due(6, "feed(255)", x.feed(255), 2);
        for (int i = 3; i <= 130; i++) {
            due(6, "byte " + i, x.feed(i), i);
        }
        due(6, "byte 131", x.feed(107), FULL);
        due(6, "BAD is ahead of FULL", x.feed(256), BAD);
        due(6, "count(5)", x.count(5), 130);
        due(6, "the tape is read", x.piece(), -1000100);
        due(6, "and empty", x.count(5), 0);
        due(6, "feed(107)", x.feed(107), 1);
    }

    private static void piece() {
        SpelledTones x = new SpelledTones();
        due(7, "seven chords", tell(x, SEVEN), 7);
        due(7, "its notes", x.count(2), 15);
        due(7, "its signature", x.count(3), 9);
        due(7, "ten chords", tell(x, "k14;c11;c0;r1;l2;h3;o4;c5;c6;c07;c8,9,10,11;"), 10);
        due(7, "its notes", x.count(2), 13);
        x.key(0, 3);
        due(7, "one in place of it", tell(x, "k00;o00;"), 1);
        due(7, "no act can be undone", x.undo(), STATE);
        due(7, "its kind", x.kind(0), 5);
        StringBuilder most = new StringBuilder("k7;");
        for (int i = 0; i < 10; i++) {
            most.append("c0,1,2,3;");
        }
        due(7, "forty notes", tell(x, most.toString()), 10);
        due(7, "so many", x.count(2), 40);
        due(7, "its last", x.note(39, 0), 3);
        StringBuilder full = new StringBuilder("k7;c0,1,2,3;");
        for (int i = 0; i < 9; i++) {
            full.append(i < 8 ? "b;f;c0,1,2,3;" : "b;f;c0,1,2,10;");
        }
        due(7, "a full tape", full.length(), 130);
        due(7, "is read", tell(x, full.toString()), 10);
        tell(x, "k7;c0;");
        due(7, "BEST of one", x.whole(0), 0);
        tell(x, "k7;c6;");
        due(7, "BEST of the one in its place", x.whole(0), 2);
        due(7, "forty notes again", tell(x, most.toString()), 10);
        x.key(0, 5);
        due(7, "a fault", tell(x, "k7;x"), -1000103);
        due(7, "all stays", x.count(2), 40);
        due(7, "the act, too", x.undo(), 0);
    }

    private static void faultOf(String text, int place, int number) {
        SpelledTones x = new SpelledTones();
        due(7, "piece() of " + text, tell(x, text), -1000100 - place);
        due(8, "fault() of " + text, x.fault(), number);
        due(7, "no piece behind " + text, x.count(1), 0);
    }

    private static void fault() {
        faultOf("", 0, 1);
        faultOf("k", 1, 1);
        faultOf("K7;c0;", 0, 1);
        faultOf(" k7;c0;", 0, 1);
        faultOf("7;c0;", 0, 1);
        faultOf("k;", 1, 1);
        faultOf("k15;c0;", 1, 2);
        faultOf("k007;c0;", 1, 1);
        faultOf("k1234;c0;", 1, 1);
        faultOf("k7,", 2, 1);
        faultOf("k7", 2, 1);
        faultOf("k7;", 3, 1);
        faultOf("k7;b;c0;", 3, 1);
        faultOf("k7;f;c0;", 3, 1);
        faultOf("k7;k", 3, 1);
        faultOf("k7;c;", 4, 1);
        faultOf("k7;cc", 4, 1);
        faultOf("k7;c12;", 4, 2);
        faultOf("k7;c99;", 4, 2);
        faultOf("k7;c000;", 4, 1);
        faultOf("k7;c0", 5, 1);
        faultOf("k7;c0,", 6, 1);
        faultOf("k7;c0,;", 6, 1);
        faultOf("k7;c0,0;", 6, 2);
        faultOf("k7;c10,9;", 7, 2);
        faultOf("k7;c0,1,2,3,4;", 11, 1);
        faultOf("k7;c0,1,2,3,x", 11, 1);
        faultOf("k7;c0;x", 6, 1);
        faultOf("k7;c0;5", 6, 1);
        faultOf("k7;c0;123", 6, 1);
        faultOf("k7;c0;;", 6, 1);
        faultOf("k7;c0;b", 7, 1);
        faultOf("k7;c0;bc0;", 7, 1);
        faultOf("k7;c0;b;", 8, 1);
        faultOf("k7;c0;b;b;c0;", 8, 1);
        faultOf("k7;c0;f;f;c0;", 8, 1);
        faultOf("k7;c0;f;b;c0;", 8, 1);
        faultOf("k7;c0;f;", 8, 1);
        faultOf("k7;c0 ;", 5, 1);
        faultOf("k7;c0;" + (char) 233, 6, 1);
        String ten = "k7;c0;c0;c0;c0;c0;c0;c0;c0;c0;c0;";
        faultOf(ten + "c0;", 33, 3);
        faultOf(ten + "o", 33, 3);
        faultOf(ten + "b;f;r0;", 37, 3);
        faultOf(ten + "x0;", 33, 1);
        faultOf(ten + "b;", 35, 1);
        SpelledTones x = new SpelledTones();
        due(8, "before one", x.fault(), 0);
        tell(x, "k7;c1234567");
        due(7, "what was read before is not read again", tell(x, "k7;c1"), -1000105);
        due(7, "nor behind two figures", tell(x, "k7;c10"), -1000106);
        tell(x, "k15;");
        tell(x, "k7;c0;");
        due(8, "the latest stays", x.fault(), 2);
        tell(x, "k");
        due(8, "another", x.fault(), 1);
    }

    private static void key() {
        SpelledTones x = of("k7;c0,4,7;c2;");
        due(9, "key(1, 3)", x.key(1, 3), 4);
        due(9, "it is so", x.note(1, 0), 3);
        due(9, "BEST is another", x.note(1, 3), 5);
        due(9, "with a flat", x.note(1, 4), -1);
        due(9, "alike, out of order", x.key(0, 7), 0);
        due(9, "chords stay", x.chord(0, 0), 3);
        due(9, "key(1, 3) again", x.key(1, 3), STATE);
        due(9, "key 12", x.key(1, 12), BAD);
        due(9, "key -1", x.key(1, -1), BAD);
        due(9, "note 4", x.key(4, 0), BAD);
        due(9, "note -1", x.key(-1, 0), BAD);
        due(9, "acts", x.count(4), 2);
        due(9, "no piece", new SpelledTones().key(0, 0), BAD);
    }

    private static void become() {
        SpelledTones x = of("k7;c6;c6;");
        due(10, "plain: a flat", x.note(0, 4), -1);
        due(10, "become(0, 2)", x.become(0, 2), 1);
        due(10, "rising: a sharp", x.note(0, 4), 1);
        due(10, "become(0, 1)", x.become(0, 1), 2);
        due(10, "plain: a flat again", x.note(0, 4), -1);
        due(10, "become(0, 5)", x.become(0, 5), 1);
        due(10, "become(0, 5) again", x.become(0, 5), STATE);
        due(10, "kind 0", x.become(0, 0), BAD);
        due(10, "kind 6", x.become(0, 6), BAD);
        due(10, "chord 2", x.become(2, 1), BAD);
        due(10, "chord -1", x.become(-1, 1), BAD);
        due(10, "kind(0)", x.kind(0), 5);
        due(10, "acts", x.count(4), 3);
        due(10, "no piece", new SpelledTones().become(0, 1), BAD);
    }

    private static void sign() {
        SpelledTones x = of("k7;c6;");
        due(11, "sign(14)", x.sign(14), 7);
        due(11, "head(6)", x.head(6), 1);
        due(11, "nothing is printed", x.whole(2), 0);
        due(11, "sign(0)", x.sign(0), 14);
        due(11, "sign(0) again", x.sign(0), STATE);
        due(11, "sign(15)", x.sign(15), BAD);
        due(11, "sign(-1)", x.sign(-1), BAD);
        due(11, "count(3)", x.count(3), 0);
        due(11, "acts", x.count(4), 2);
        due(11, "no piece is ahead of BAD", new SpelledTones().sign(15), STATE);
    }

    private static void shift() {
        SpelledTones x = of("k7;c0,4,7;");
        due(12, "shift(1)", x.shift(1), 8);
        due(12, "c is g", x.note(0, 0), 7);
        due(12, "e is b", x.note(1, 0), 11);
        due(12, "g is d", x.note(2, 0), 2);
        due(12, "shift(6)", x.shift(6), 14);
        due(12, "beyond 14", x.shift(1), STATE);
        due(12, "shift(-6)", x.shift(-6), 8);
        due(12, "shift(-6)", x.shift(-6), 2);
        due(12, "g is d flat", x.note(0, 0), 1);
        due(12, "beyond 0", x.shift(-3), STATE);
        due(12, "to 0", x.shift(-2), 0);
        due(12, "shift(0)", x.shift(0), STATE);
        due(12, "shift(7)", x.shift(7), BAD);
        due(12, "shift(-7)", x.shift(-7), BAD);
        due(12, "acts", x.count(4), 5);
        due(12, "no piece is ahead of BAD", new SpelledTones().shift(7), STATE);
    }

    private static void undo() {
        SpelledTones x = of("k7;c0,4,7;r2;");
        x.key(1, 3);
        x.become(1, 4);
        x.sign(4);
        x.shift(5);
        due(13, "the shift", x.undo(), 3);
        due(13, "signature of it", x.count(3), 4);
        due(13, "key of it", x.note(0, 0), 0);
        due(13, "the signature", x.undo(), 2);
        due(13, "it is as it was", x.count(3), 7);
        due(13, "the kind", x.undo(), 1);
        due(13, "it is as it was", x.kind(1), 2);
        due(13, "the key", x.undo(), 0);
        due(13, "it is as it was", x.note(1, 0), 4);
        due(13, "BEST is, too", x.whole(0), 0);
        due(13, "none", x.undo(), STATE);
        for (int i = 0; i < 20; i++) {
            x.key(0, 1 + i % 2);
        }
        due(13, "16 are kept", x.count(4), 16);
        for (int i = 15; i >= 0; i--) {
            due(13, "of 16", x.undo(), i);
        }
        due(13, "the oldest four are forgotten", x.undo(), STATE);
        due(13, "their key stays", x.note(0, 0), 2);
        oldestForgotten();
        SpelledTones y = of("k7;c0;");
        y.key(0, 6);
        due(13, "cost of f sharp", y.whole(0), 2);
        y.undo();
        due(13, "cost of c", y.whole(0), 0);
    }

    /** 21 acts of all sorts on different notes and chords: five are forgotten, all others taken back. */
    private static void oldestForgotten() {
        SpelledTones x = of("k7;c0,1,2,3;c4,5,6,7;");
        for (int i = 0; i < 5; i++) {
            x.key(i, 10);
            x.become(i % 2, 2 + i % 4);
            x.sign(8 - i);
            x.shift(1 + i);
        }
        x.key(7, 3);
        due(13, "16 of 21", x.count(4), 16);
        for (int i = 15; i >= 0; i--) {
            due(13, "of 21", x.undo(), i);
        }
        // What is left: note 0 is 10, chord 0 is rising, the signature 8, all shifted by 1, note 1 is 10.
        int[] keys = {5, 10, 9, 10, 11, 0, 1, 2};
        for (int note = 0; note < 8; note++) {
            due(13, "key of note " + note, x.note(note, 0), keys[note]);
        }
        due(13, "kind of chord 0", x.kind(0), 2);
        due(13, "kind of chord 1", x.kind(1), 1);
        due(13, "signature", x.count(3), 9);
    }

    private static void place() {
        SpelledTones x = new SpelledTones();
        int[][] places = {{-15, 0, -2, 3}, {-14, 1, -2, 10}, {-8, 0, -1, 4}, {-2, 6, -1, 10}, {-1, 0, 0, 5},
            {0, 1, 0, 0}, {5, 6, 0, 11}, {6, 0, 1, 6}, {12, 6, 1, 0}, {13, 0, 2, 7}, {19, 6, 2, 1}};
        for (int[] p : places) {
            for (int what = 0; what < 3; what++) {
                due(14, "place(" + p[0] + ", " + what + ")", x.place(p[0], what), p[1 + what]);
            }
        }
        due(14, "place 20", x.place(20, 0), BAD);
        due(14, "place -16", x.place(-16, 0), BAD);
        due(14, "what 3", x.place(0, 3), BAD);
        due(14, "what -1", x.place(0, -1), BAD);
    }

    private static void inWindow() {
        SpelledTones x = new SpelledTones();
        for (int w = -15; w <= 8; w++) {
            for (int p = w; p < w + 12; p++) {
                due(15, "inWindow(" + w + ") of place " + p, x.inWindow(w, x.place(p, 2)), p);
            }
        }
        due(15, "window -16", x.inWindow(-16, 0), BAD);
        due(15, "window 9", x.inWindow(9, 0), BAD);
        due(15, "key 12", x.inWindow(0, 12), BAD);
        due(15, "key -1", x.inWindow(0, -1), BAD);
    }

    private static void head() {
        SpelledTones x = of("k0;c0;");
        for (int signature = 0; signature < 15; signature++) {
            x.sign(signature);
            for (int letter = 0; letter < 7; letter++) {
                int sharp = letter < signature - 7 ? 1 : 0;
                int flat = 6 - letter < 7 - signature ? 1 : 0;
                due(16, "head(" + letter + ") by " + signature, x.head(letter), sharp - flat);
            }
        }
        due(16, "letter 7", x.head(7), BAD);
        due(16, "letter -1", x.head(-1), BAD);
        due(16, "no piece", new SpelledTones().head(0), BAD);
    }

    private static void noteIs(SpelledTones x, int note, int... answers) {
        for (int what = 0; what < 6; what++) {
            due(17, "note(" + note + ", " + what + ")", x.note(note, what), answers[what]);
        }
    }

    private static void note() {
        SpelledTones x = of("k7;c6;c6;b;c6;c5;");
        noteIs(x, 0, 6, 0, -6, 2, -1, -1);
        noteIs(x, 1, 6, 1, -6, 2, -1, NONE);
        noteIs(x, 2, 6, 2, -6, 2, -1, -1);
        noteIs(x, 3, 5, 3, -1, 0, 0, NONE);
        due(17, "note 4", x.note(4, 0), BAD);
        due(17, "note -1", x.note(-1, 0), BAD);
        due(17, "what 6", x.note(0, 6), BAD);
        due(17, "what -1", x.note(0, -1), BAD);
        due(17, "no piece", new SpelledTones().note(0, 0), BAD);
        // A natural behind a sharp of the same letter and bar has a sign, a phrase changes nothing of this.
        SpelledTones y = of("k7;r6;f;h5;b;h5;");
        noteIs(y, 0, 6, 0, 6, 0, 1, 1);
        noteIs(y, 1, 5, 1, -1, 0, 0, 0);
        noteIs(y, 2, 5, 2, -1, 0, 0, NONE);
        // Loose chords are named and printed, too; signs of the head are not printed.
        SpelledTones z = of("k8;r6;o6,11;o5;");
        noteIs(z, 1, 6, 1, 6, 0, 1, NONE);
        noteIs(z, 3, 5, 2, -1, 0, 0, 0);
    }

    private static void chordIs(SpelledTones x, int chord, int... answers) {
        for (int what = 0; what < 6; what++) {
            due(18, "chord(" + chord + ", " + what + ")", x.chord(chord, what), answers[what]);
        }
    }

    private static void chord() {
        SpelledTones x = of("k7;l1,3,6,8;f;r1,3,6,8;b;h1;b;f;o0,1;");
        chordIs(x, 0, 4, 0, -7, 4, 1, 1);
        chordIs(x, 1, 4, 4, -2, 4, 0, 1);
        chordIs(x, 2, 1, 8, -2, 2, 1, 0);
        chordIs(x, 3, 2, 9, -2, 0, 1, 1);
        due(18, "chord 4", x.chord(4, 0), BAD);
        due(18, "chord -1", x.chord(-1, 0), BAD);
        due(18, "what 6", x.chord(0, 6), BAD);
        due(18, "what -1", x.chord(0, -1), BAD);
        due(18, "no piece", new SpelledTones().chord(0, 0), BAD);
    }

    private static void wholeIs(String text, int... answers) {
        SpelledTones x = of(text);
        for (int what = 0; what < 7; what++) {
            due(19, "whole(" + what + ") of " + text, x.whole(what), answers[what]);
        }
        due(19, "its first window", x.chord(0, 2), answers[7]);
    }

    private static void whole() {
        wholeIs("k7;c0,4,7;", 0, 8, 0, 6, 0, 0, -7, -7);
        wholeIs("k7;c6;c6;b;c6;c5;", 6, 12, 2, 1, 0, 6, -12, -12);
        wholeIs("k7;r6;", 1, 12, 1, 0, 0, 1, -5, -5);
        wholeIs("k7;l6;", 1, 10, 1, 0, 0, 1, -15, -15);
        wholeIs("k7;h6;", 2, 22, 1, 0, 0, 2, -15, -15);
        wholeIs("k7;o6;", 0, 24, 1, 0, 0, 0, -15, -15);
        wholeIs("k7;c0,1;", 2, 7, 1, 2, 0, 2, -11, -11);
        wholeIs("k0;c3;", 0, 12, 0, 0, 0, 0, -14, -14);
        wholeIs(SEVEN, 8, 10, 6, 0, 7, 8, -4, -4);
        due(19, "cost without a phrase", of("k7;l1,3,6,8;r1,3,6,8;").whole(0), 12);
        due(19, "cost with a phrase", of("k7;l1,3,6,8;f;r1,3,6,8;").whole(0), 10);
        due(19, "plain with a phrase", of("k7;l1,3,6,8;f;r1,3,6,8;").whole(5), 12);
        SpelledTones low = of("k0;l0,2,3,10;l0,2,3,10;");
        due(19, "plain: double flats, the lowest window", low.whole(6), low.chord(0, 2));
        wholeIs("k14;r1,2,7,9;", 4, 1, 4, 9, 0, 4, 8, 8);
        SpelledTones down = of("k0;r1,3,6,8;c3,5,10;");
        due(19, "a step down", down.chord(1, 2) <= down.chord(0, 2) ? 1 : 0, 1);
        SpelledTones held = of("k7;l1,3,6,8;h1,3,6,8;r1,3,6,8;o1;c0;");
        due(19, "a held one goes along", held.chord(1, 2), held.chord(0, 2));
        due(19, "a loose one, too", held.chord(3, 2), held.chord(2, 2));
        SpelledTones loose = of("k14;r2,7,9;o0;c0,4,7;");
        due(19, "a loose one behind the first", loose.chord(1, 2), loose.chord(0, 2));
        headsFollow();
        SpelledTones x = of("k7;c0;");
        due(19, "what 7", x.whole(7), BAD);
        due(19, "what -1", x.whole(-1), BAD);
        due(19, "the signature stays", x.count(3), 7);
        due(19, "no piece is ahead of BAD", new SpelledTones().whole(7), STATE);
    }

    private static void headsFollow() {
        SpelledTones x = of("k7;c0,4,7;");
        due(19, "heads of c e g", x.whole(3), 6);
        x.image(0);
        x.key(1, 3);
        due(19, "heads of c, e flat, g", x.whole(3), 3);
        x.undo();
        due(19, "heads of c e g again", x.whole(3), 6);
        x.shift(2);
        due(19, "heads of d, f sharp, a", x.whole(3), 8);
        x.become(0, 5);
        due(19, "heads of a loose one", x.whole(3), 0);
        x.restore(0);
        due(19, "heads of an image", x.whole(3), 6);
        tell(x, "k7;l1,6;l6,8;r6,10;");
        due(19, "heads of another piece", x.whole(3), 0);
        due(19, "cost by that", x.whole(4), 0);
    }

    private static void price() {
        SpelledTones x = of("k7;c0,1;r0,1;l0,1;h0,1;o0,1;c0,4,7;");
        int[] flat = {2, 2, 1, 2, 0};
        int[] sharp = {7, 6, 7, 7, 0};
        for (int c = 0; c < 5; c++) {
            due(20, "flat, chord " + c, x.price(c, -11), flat[c]);
            due(20, "sharp, chord " + c, x.price(c, -4), sharp[c]);
        }
        due(20, "c e g at the lowest: d double flat, f flat, a double flat", x.price(5, -15), 10);
        due(20, "c e g at the highest: b sharp, d and f double sharp", x.price(5, 8), 10);
        x.key(11, 0);
        x.key(12, 0);
        due(20, "three of one letter", x.price(5, 0), 15);
        x.sign(14);
        due(20, "and naturals by seven sharps", x.price(5, 0), 21);
        due(20, "double flats by seven sharps", x.price(5, -15), 33);
        due(20, "window 9", x.price(0, 9), BAD);
        due(20, "window -16", x.price(0, -16), BAD);
        due(20, "chord 6", x.price(6, 0), BAD);
        due(20, "chord -1", x.price(-1, 0), BAD);
        due(20, "no piece", new SpelledTones().price(0, 0), BAD);
    }

    private static void cost() {
        SpelledTones x = of("k7;c0;c0;f;c0;h0;f;o0;");
        items(x, 7, -11, -8, -3, -3, -3, 9);
        due(21, "3, and 5 by 2", x.cost(0, 1), 5);
        due(21, "from 0: 7 is a window of 4 signs, the held one is moved", x.cost(0, 0), NONE);
        due(21, "from 2: 9 is none", x.cost(0, 2), NONE);
        due(21, "status() of that", x.status(), 0);
        due(21, "from 3", x.cost(0, 3), PLACE);
        due(21, "from -1", x.cost(0, -1), PLACE);
        due(21, "from most", x.cost(0, MOST), PLACE);
        due(21, "from least", x.cost(0, LEAST), PLACE);
        x.set(0, 5, -4);
        due(21, "a loose one is moved", x.cost(0, 1), NONE);
        items(x, 1, 1, 1, 1, 1);
        due(21, "b sharp four times", x.cost(0, 0), 8);
        items(x, -16, -16, -16, -16, -16);
        due(21, "no windows, below", x.cost(0, 0), NONE);
        due(21, "a missing row", x.cost(1, 0), NULL);
        due(21, "row 8", x.cost(8, 0), BAD);
        due(21, "row -1", x.cost(-1, 0), BAD);
        due(21, "no piece is ahead of BAD", new SpelledTones().cost(8, 0), STATE);
        SpelledTones y = of("k7;h0;");
        items(y, 0);
        due(21, "a held one at first: any window", y.cost(0, 0), 0);
        SpelledTones z = of("k7;o0;o0;");
        items(z, 8, 8);
        due(21, "two loose ones in the highest window", z.cost(0, 0), 0);
        items(z, -15, -14);
        due(21, "the second is moved", z.cost(0, 0), NONE);
    }

    private static void fits() {
        SpelledTones x = of("k7;c6;c5;");
        // By BEST: g flat, f.
        items(x, 2, 0, 0);
        due(22, "it is so now", x.fits(0, 0, 2, 0) >> 7 & 1, 1);
        due(22, "one letter, kinds of chord 0", x.fits(0, 0, 1, 1), 1 << 1 | 1 << 3 | 1 << 4 | 1 << 5);
        due(22, "two letters, keys of chord 0: g flat, g", x.fits(0, 0, 2, 2), 1 << 6 | 1 << 7);
        due(22, "two letters, keys of chord 1: what leaves g flat and f", x.fits(1, 0, 2, 2) & 1 << 5, 1 << 5);
        items(x, 7, 0);
        due(22, "no letter", x.fits(0, 0, 1, 0), 0);
        due(22, "nothing changed", x.count(3) * 100 + x.kind(0) * 10 + x.count(4), 710);
        due(22, "its key stays", x.note(0, 0), 6);
        due(22, "3 notes of 2", x.fits(0, 0, 3, 0), BAD);
        due(22, "no notes", x.fits(0, 0, 0, 0), BAD);
        due(22, "n -1", x.fits(0, 0, -1, 0), BAD);
        due(22, "chord 2, though signatures are wanted", x.fits(2, 0, 1, 0), BAD);
        due(22, "chord -1", x.fits(-1, 0, 1, 0), BAD);
        due(22, "row 8", x.fits(0, 8, 1, 0), BAD);
        due(22, "what 3", x.fits(0, 0, 1, 3), BAD);
        due(22, "what -1", x.fits(0, 0, 1, -1), BAD);
        due(22, "a missing row", x.fits(0, 1, 2, 0), NULL);
        x.row(1, 0, 1);
        due(22, "2 of 1 item", x.fits(0, 1, 2, 0), PLACE);
        due(22, "no piece", new SpelledTones().fits(0, 0, 1, 0), BAD);
        SpelledTones y = of("k7;c0,4,7;");
        items(y, 1, 5, 2);
        due(22, "c e g: from one flat to six sharps", y.fits(0, 0, 3, 0), 0x3fc0);
        SpelledTones z = of("k7;c2;");
        items(z, 3);
        due(22, "d by all signatures but e double flat, c double sharp", z.fits(0, 0, 1, 0), signaturesOf("c2;", 3));
        due(22, "d by all kinds but a loose one", z.fits(0, 0, 1, 1), 0x1e);
        SpelledTones flat = of("k7;c11;");
        items(flat, 1);
        due(22, "c flat by signatures", flat.fits(0, 0, 1, 0), signaturesOf("c11;", 1));
        due(22, "by seven flats it is", flat.fits(0, 0, 1, 0) & 1, 1);
        SpelledTones c = of("k7;c3,5;");
        items(c, 1);
        due(22, "c by keys 0 and 11", c.fits(0, 0, 1, 2) & 1, 1);
        c.sign(0);
        due(22, "c flat by seven flats", c.fits(0, 0, 1, 2) >> 11, 1);
    }

    /** Told by making each of them a piece. */
    private static int signaturesOf(String chords, int letter) {
        int bits = 0;
        for (int v = 0; v < 15; v++) {
            SpelledTones x = of("k" + v + ";" + chords);
            bits |= x.note(0, 3) == letter ? 1 << v : 0;
        }
        return bits;
    }

    private static void drawn() {
        SpelledTones x = of("k7;c6;c5;");
        due(23, "none drawn: cost", x.drawn(0, 1, 0), 0);
        due(23, "none drawn: signs", x.drawn(0, 1, 1), 1);
        // 16807 is odd, by 32 it is 525, of that 9 is left: note 1 has key 9 (a).
        SpelledTones y = of("k7;c6;c9;");
        due(23, "one drawn", x.drawn(1, 1, 0), y.whole(0));
        due(23, "its signs", x.drawn(1, 1, 1), y.whole(2));
        // 282475249 is odd, by 32 it is 8827351, of that 7 is left: note 1 has key 7 (g).
        SpelledTones z = of("k7;c6;c7;");
        due(23, "two drawn", x.drawn(2, 1, 0), y.whole(0) + z.whole(0));
        due(23, "signs of the last", x.drawn(2, 1, 1), z.whole(2));
        drawnByHand();
        due(23, "nothing changes", x.note(1, 0), 5);
        due(23, "no act", x.count(4), 0);
        due(23, "20 by 999999", x.drawn(20, 999999, 0) > 0 ? 1 : 0, 1);
        due(23, "21", x.drawn(21, 1, 0), BAD);
        due(23, "-1", x.drawn(-1, 1, 0), BAD);
        due(23, "seed 0", x.drawn(1, 0, 0), BAD);
        due(23, "seed 1000000", x.drawn(1, 1000000, 0), BAD);
        due(23, "what 2", x.drawn(1, 1, 2), BAD);
        due(23, "what -1", x.drawn(1, 1, -1), BAD);
        due(23, "no piece is ahead of BAD", new SpelledTones().drawn(21, 1, 0), STATE);
    }

    /** Twenty draws on a piece of one note, and on one of five, each made an act. */
    private static void drawnByHand() {
        for (String text : new String[] {"k4;c6;", "k12;c1,5;r6,9;l2;"}) {
            SpelledTones x = of(text);
            SpelledTones y = of(text);
            long draw = 4711;
            int sum = 0;
            for (int n = 1; n <= 20; n++) {
                draw = draw * 16807 % 2147483647L;
                y.key((int) (draw % y.count(2)), (int) (draw / 32 % 12));
                sum += y.whole(0);
                due(23, n + " drawn of " + text, x.drawn(n, 4711, 0), sum);
                due(23, "signs of " + n + " drawn of " + text, x.drawn(n, 4711, 1), y.whole(2));
            }
        }
    }

    private static void image() {
        SpelledTones x = new SpelledTones();
        due(24, "image(2)", x.image(2), BAD);
        due(24, "image(-1)", x.image(-1), BAD);
        due(24, "no piece", x.image(0), STATE);
        tell(x, SEVEN);
        x.key(0, 3);
        due(24, "image(1)", x.image(1), 1);
        due(24, "acts stay", x.count(4), 1);
        x.sign(0);
        due(24, "image(0)", x.image(0), 1);
        x.restore(1);
        due(24, "the first has its signature", x.count(3), 9);
        x.restore(0);
        due(24, "the second its own", x.count(3), 0);
    }

    private static void restore() {
        SpelledTones x = of(SEVEN);
        due(25, "none was kept", x.restore(0), STATE);
        due(25, "restore(2)", x.restore(2), BAD);
        due(25, "restore(-1)", x.restore(-1), BAD);
        x.image(0);
        tell(x, "k0;o0;");
        x.key(0, 5);
        due(25, "restore(0)", x.restore(0), 1);
        due(25, "chords", x.count(1), 7);
        due(25, "notes", x.count(2), 15);
        due(25, "signature", x.count(3), 9);
        due(25, "kind of chord 3", x.kind(3), 3);
        due(25, "a bar begins with chord 2", x.chord(2, 4), 1);
        due(25, "a phrase with chord 3", x.chord(3, 5), 1);
        due(25, "chord of the last note", x.note(14, 1), 6);
        due(25, "BEST", x.whole(0), 8);
        due(25, "no act can be undone", x.undo(), STATE);
        x.key(0, 5);
        due(25, "BEST is another", x.whole(0) == 8 ? 1 : 0, 0);
        due(25, "again", x.restore(0), 1);
        due(25, "BEST, again", x.whole(0), 8);
        due(25, "the image is as it was", x.note(0, 0), 2);
        due(25, "the other was not kept", x.restore(1), STATE);
    }

    private static void kind() {
        SpelledTones x = of("k7;c0;r0;l0;h0;o0;");
        for (int c = 0; c < 5; c++) {
            due(26, "kind(" + c + ")", x.kind(c), c + 1);
        }
        due(26, "kind(5)", x.kind(5), BAD);
        due(26, "kind(-1)", x.kind(-1), BAD);
        due(26, "no piece", new SpelledTones().kind(0), BAD);
    }

    private static void as() {
        SpelledTones x = of("k7;c0;r0;l0;h0;o0;");
        String[] is = {"110000", "111000", "110100", "100010", "100011"};
        for (int c = 0; c < 5; c++) {
            for (int kind = 0; kind < 6; kind++) {
                boolean one = is[c].charAt(kind) == '1';
                due(27, "as(" + c + ", " + kind + ")", x.as(c, kind), one ? c : KIND);
                due(31, "status() of it", x.status(), one ? 0 : 3);
            }
        }
        due(27, "kind 6", x.as(0, 6), BAD);
        due(27, "kind -1", x.as(0, -1), BAD);
        due(27, "chord 5", x.as(5, 0), BAD);
        due(27, "chord -1", x.as(-1, 0), BAD);
        due(27, "no piece", new SpelledTones().as(0, 0), BAD);
    }

    private static void askIs(SpelledTones x, int chord, int what, int answer, int... bodies) {
        due(28, "ask(" + chord + ", " + what + ")", x.ask(chord, what), answer);
        for (int i = 0; i < bodies.length; i++) {
            due(29, "trace(" + i + ") of ask(" + chord + ", " + what + ")", x.trace(i), bodies[i]);
        }
        due(29, "the end of the trace", x.trace(bodies.length), NONE);
    }

    private static void ask() {
        // c e g stand in windows from -7 on: all chords stay in that.
        SpelledTones x = of("k7;c0,4,7;r0,4;l0;h0,4;o0,4,7;");
        due(28, "the window", x.chord(1, 2), -7);
        askIs(x, 0, 0, 3 + (0 - 7), 11, 10, 21, 20);
        askIs(x, 0, 1, 0 - 7, 21, 20);
        askIs(x, 1, 0, -(2 + 2 * (1 - 7)), 12, 11, 10, 24, 21, 20);
        askIs(x, 1, 1, 2 * (1 - 7), 24, 21, 20);
        askIs(x, 2, 0, 1 + (2 - 7 - 1000), 11, 10, 22, 21, 20);
        askIs(x, 2, 1, 2 - 7 - 1000, 22, 21, 20);
        askIs(x, 3, 0, 2 - 100, 13, 10);
        askIs(x, 3, 1, 3 - (2 - 100), 23, 20, 13, 10);
        askIs(x, 4, 0, 2 * (3 - 100), 14, 13, 10);
        askIs(x, 4, 1, 4 - 2 * (3 - 100), 23, 20, 14, 13, 10);
        due(28, "what 2", x.ask(0, 2), BAD);
        due(28, "what -1", x.ask(0, -1), BAD);
        due(28, "chord 5", x.ask(5, 0), BAD);
        due(28, "chord -1", x.ask(-1, 0), BAD);
        due(28, "no piece", new SpelledTones().ask(0, 0), BAD);
        x.become(4, 2);
        askIs(x, 4, 1, 2 * (4 - 7), 24, 21, 20);
    }

    private static void trace() {
        SpelledTones x = of("k7;h0;");
        due(29, "at first", x.trace(0), NONE);
        x.ask(0, 1);
        due(29, "trace(3)", x.trace(3), 10);
        due(29, "trace(4)", x.trace(4), NONE);
        due(29, "trace(-1)", x.trace(-1), NONE);
        due(29, "trace(16)", x.trace(16), NONE);
        due(29, "trace(most)", x.trace(MOST), NONE);
        due(29, "trace(least)", x.trace(LEAST), NONE);
        x.ask(1, 0);
        due(29, "it stays behind BAD", x.trace(0), 23);
        tell(x, "k7;c0;");
        due(29, "and behind a piece", x.trace(2), 13);
        x.ask(0, 1);
        due(29, "not behind another ask", x.trace(2), NONE);
    }

    private static void count() {
        SpelledTones x = of(SEVEN);
        x.row(3, 0, 1);
        x.row(3, 1, 2);
        x.row(5, 0, 0);
        x.sign(8);
        x.feed(1);
        x.feed(2);
        x.feed(3);
        int[] counts = {2, 7, 15, 8, 1, 3};
        for (int what = 0; what < 6; what++) {
            due(30, "count(" + what + ")", x.count(what), counts[what]);
        }
        due(30, "count(6)", x.count(6), BAD);
        due(30, "count(-1)", x.count(-1), BAD);
    }

    private static void status() {
        SpelledTones x = of("k7;c0;");
        x.row(0, 0, -1);
        due(31, "SIZE", x.status(), 4);
        x.row(0, 3, 0);
        x.row(9, 0, -1);
        x.set(9, 0, 0);
        x.drop(9);
        x.copy(9, 0, 0, 0, 0);
        x.cost(9, 0);
        x.fits(0, 0, 9, 0);
        x.as(0, 9);
        x.feed(-1);
        x.sign(7);
        x.undo();
        due(31, "what is BAD or STATE leaves it", x.status(), 4);
        x.whole(0);
        x.key(0, 1);
        x.ask(0, 0);
        x.count(0);
        x.trace(0);
        due(31, "what has no row leaves it", x.status(), 4);
        x.row(0, 0, 2);
        due(31, "row", x.status(), 0);
        x.set(0, 2, 0);
        due(31, "PLACE", x.status(), 2);
        x.set(0, 0, 0);
        due(31, "set", x.status(), 0);
        x.drop(1);
        due(31, "NULL", x.status(), 1);
        x.row(1, 1, 2);
        x.copy(0, 0, 1, 0, 1);
        due(31, "STORE", x.status(), 5);
        x.copy(0, 0, 0, 1, 1);
        due(31, "copy", x.status(), 0);
        x.cost(0, 2);
        due(31, "PLACE of cost", x.status(), 2);
        x.cost(0, 0);
        due(31, "cost", x.status(), 0);
        x.fits(0, 2, 1, 0);
        due(31, "NULL of fits", x.status(), 1);
        for (int what = 0; what < 3; what++) {
            x.drop(7);
            x.fits(0, 0, 1, what);
            due(31, "fits", x.status(), 0);
        }
        x.as(0, 4);
        due(31, "KIND", x.status(), 3);
        x.drop(0);
        due(31, "drop", x.status(), 0);
        x.as(0, 2);
        x.as(0, 1);
        due(31, "as", x.status(), 0);
        x.as(0, 2);
        new SpelledTones().cost(0, 0);
        due(31, "another object has its own", x.status(), 3);
        SpelledTones y = new SpelledTones();
        y.drop(0);
        y.cost(0, 0);
        due(31, "STATE leaves it", y.status(), 1);
    }
}
