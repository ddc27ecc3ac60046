/** Each boundary that the document names of what is asked: kinds, bodies, the trace, counts, status; promises 1, 26 to 31. */
public final class AskedEdgeTest {
    private static final String KINDS = "k7;c0,4,7;r0,4;l0;h0,4;o0,4,7;";
    private static final Due DUE = new Due();

    public static void main(String[] args) {
        noPiece();
        kindsAsTold();
        takenAs();
        bodies();
        bodiesOfOtherKinds();
        firstAndLastChord();
        emptyAheadOfAnAsk();
        traceBeyond();
        refusalsOfAsk();
        counts();
        countsAtTheirMost();
        statusOfFindings();
        statusIsLeft();
        statusIsCleared();
        DUE.end();
    }

    private static void noPiece() {
        DUE.says("SpelledTones(): No PIECE.");
        SpelledTones x = new SpelledTones();
        for (int what = 0; what < 6; what++) {
            DUE.is("count(" + what + ")", x.count(what), 0);
            DUE.is("note(0, " + what + ")", x.note(0, what), Due.BAD);
            DUE.is("chord(0, " + what + ")", x.chord(0, what), Due.BAD);
            DUE.is("whole(" + what + ")", x.whole(what), Due.STATE);
        }
        DUE.is("kind(0)", x.kind(0), Due.BAD);
        DUE.is("as(0, 0)", x.as(0, 0), Due.BAD);
        DUE.is("ask(0, 0)", x.ask(0, 0), Due.BAD);
        DUE.is("trace(0)", x.trace(0), Due.NONE);
        DUE.is("fault()", x.fault(), 0);
        DUE.is("status()", x.status(), 0);
        DUE.is("undo()", x.undo(), Due.STATE);
        Due.tell(x, "k7;c0;");
        DUE.is("another object has its own", new SpelledTones().count(1), 0);
    }

    private static void kindsAsTold() {
        DUE.says("The KIND of a CHORD, as told (1 to 5). BAD.");
        SpelledTones x = DUE.of(KINDS);
        for (int chord = 0; chord < 5; chord++) {
            DUE.is("kind(" + chord + ")", x.kind(chord), chord + 1);
        }
        DUE.is("kind(-1)", x.kind(-1), Due.BAD);
        DUE.is("kind(5)", x.kind(5), Due.BAD);
        for (int v : Due.WILD) {
            DUE.is("kind(" + v + ")", x.kind(v), Due.BAD);
        }
    }

    private static void takenAs() {
        DUE.says("A CHORD is taken as one of a KIND (0 .. 5): its number. BAD; KIND: it is no such one.");
        SpelledTones x = DUE.of(KINDS);
        String[] is = {"110000", "111000", "110100", "100010", "100011"};
        for (int chord = 0; chord < 5; chord++) {
            for (int kind = 0; kind < 6; kind++) {
                boolean one = is[chord].charAt(kind) == '1';
                DUE.is("as(" + chord + ", " + kind + ")", x.as(chord, kind), one ? chord : Due.KIND);
                DUE.is("status()", x.status(), one ? 0 : 3);
            }
            DUE.is("as(" + chord + ", -1)", x.as(chord, -1), Due.BAD);
            DUE.is("as(" + chord + ", 6)", x.as(chord, 6), Due.BAD);
        }
        for (int kind = -1; kind <= 6; kind++) {
            DUE.is("as(-1, " + kind + ")", x.as(-1, kind), Due.BAD);
            DUE.is("as(5, " + kind + ")", x.as(5, kind), Due.BAD);
        }
        for (int v : Due.WILD) {
            DUE.is("as(" + v + ", 0)", x.as(v, 0), Due.BAD);
            DUE.is("as(0, " + v + ")", x.as(0, v), Due.BAD);
        }
        x.become(4, 2);
        DUE.is("of another kind now", x.as(4, 1), 4);
        DUE.is("not of that before", x.as(4, 5), Due.KIND);
    }

    private static void asked(SpelledTones x, int chord, int what, int answer, int... bodies) {
        DUE.is("ask(" + chord + ", " + what + ")", x.ask(chord, what), answer);
        for (int i = -1; i <= 17; i++) {
            int due = i >= 0 && i < bodies.length ? bodies[i] : Due.NONE;
            DUE.is("trace(" + i + ") of ask(" + chord + ", " + what + ")", x.trace(i), due);
        }
    }

    private static void bodies() {
        DUE.says("the BODY told for the KIND begins, else that of the nearest KIND that it is, too, else the one that is lent");
        SpelledTones x = DUE.of(KINDS);
        for (int chord = 0; chord < 5; chord++) {
            DUE.is("all stand in one window", x.chord(chord, 2), -7);
        }
        asked(x, 0, 0, 3 + (0 - 7), 11, 10, 21, 20);
        asked(x, 1, 0, 0 - (2 + 2 * (1 - 7)), 12, 11, 10, 24, 21, 20);
        asked(x, 2, 0, 1 + (2 - 7 - 1000), 11, 10, 22, 21, 20);
        asked(x, 3, 0, 2 - 100, 13, 10);
        asked(x, 4, 0, 2 * (3 - 100), 14, 13, 10);
        asked(x, 0, 1, 0 - 7, 21, 20);
        asked(x, 1, 1, 2 * (1 - 7), 24, 21, 20);
        asked(x, 2, 1, 2 - 7 - 1000, 22, 21, 20);
        asked(x, 3, 1, 3 - (2 - 100), 23, 20, 13, 10);
        asked(x, 4, 1, 4 - 2 * (3 - 100), 23, 20, 14, 13, 10);
    }

    private static void bodiesOfOtherKinds() {
        DUE.says("ASKS of CHORDS, by BODIES: the KIND as it is now, the WINDOW of BEST");
        SpelledTones x = DUE.of("k7;c6;");
        asked(x, 0, 1, 0 - 15, 21, 20);
        x.become(0, 2);
        asked(x, 0, 1, 2 * -5, 24, 21, 20);
        x.become(0, 3);
        asked(x, 0, 1, -15 - 1000, 22, 21, 20);
        x.become(0, 4);
        asked(x, 0, 1, 99, 23, 20, 13, 10);
        x.become(0, 5);
        asked(x, 0, 1, 198, 23, 20, 14, 13, 10);
        x.undo();
        asked(x, 0, 0, -99, 13, 10);
    }

    private static void firstAndLastChord() {
        DUE.says("MARK: 20 lent to all CHORDS: the number (CHORDS 0 .. 9)");
        SpelledTones x = DUE.of("k7;" + "h2,5;".repeat(10));
        for (int chord = 0; chord < 10; chord++) {
            asked(x, chord, 1, chord + 98, 23, 20, 13, 10);
            DUE.is("as(" + chord + ", 4)", x.as(chord, 4), chord);
        }
        DUE.is("ask(10, 1)", x.ask(10, 1), Due.BAD);
    }

    private static void emptyAheadOfAnAsk() {
        DUE.says("THE TRACE is empty ahead of it");
        SpelledTones x = DUE.of(KINDS);
        asked(x, 1, 0, 10, 12, 11, 10, 24, 21, 20);
        asked(x, 3, 0, -98, 13, 10);
        x.ask(1, 0);
        x.ask(5, 0);
        x.ask(0, 2);
        DUE.is("what is BAD leaves it", x.trace(5), 20);
        Due.tell(x, "k7;c0;");
        DUE.is("so does another PIECE", x.trace(0), 12);
        asked(x, 0, 1, -11, 21, 20);
        x.key(0, 5);
        x.image(0);
        x.restore(0);
        DUE.is("so do ACTS and IMAGES", x.trace(1), 20);
    }

    private static void traceBeyond() {
        DUE.says("Number i of THE TRACE; NONE.");
        SpelledTones x = DUE.of(KINDS);
        for (int i = -1; i <= 17; i++) {
            DUE.is("trace(" + i + ") at first", x.trace(i), Due.NONE);
        }
        x.ask(1, 0);
        for (int v : Due.WILD) {
            DUE.is("trace(" + v + ")", x.trace(v), Due.NONE);
        }
        DUE.is("trace(5)", x.trace(5), 20);
        DUE.is("trace(6)", x.trace(6), Due.NONE);
        DUE.is("trace(15)", x.trace(15), Due.NONE);
        DUE.is("trace(16)", x.trace(16), Due.NONE);
    }

    private static void refusalsOfAsk() {
        DUE.says("An ASK (0, 1) of a CHORD. BAD.");
        SpelledTones x = DUE.of(KINDS);
        for (int what = -1; what <= 2; what++) {
            DUE.is("ask(-1, " + what + ")", x.ask(-1, what), Due.BAD);
            DUE.is("ask(5, " + what + ")", x.ask(5, what), Due.BAD);
            DUE.is("without a piece", new SpelledTones().ask(0, what), Due.BAD);
        }
        for (int chord = 0; chord < 5; chord++) {
            DUE.is("ask(" + chord + ", -1)", x.ask(chord, -1), Due.BAD);
            DUE.is("ask(" + chord + ", 2)", x.ask(chord, 2), Due.BAD);
        }
        for (int v : Due.WILD) {
            DUE.is("ask(" + v + ", 0)", x.ask(v, 0), Due.BAD);
            DUE.is("ask(0, " + v + ")", x.ask(0, v), Due.BAD);
        }
    }

    private static void counts() {
        DUE.says("How many: 0 ROWS, 1 CHORDS, 2 NOTES, 3 SIGNATURE (0 without a PIECE), 4 ACTS, 5 bytes on the tape. BAD.");
        SpelledTones x = DUE.of("k5;c0,4;b;r2;");
        x.row(3, 0, 1);
        x.row(3, 1, 2);
        x.row(7, 2, 0);
        x.sign(8);
        x.feed(1);
        int[] due = {2, 2, 3, 8, 1, 1};
        for (int what = 0; what < 6; what++) {
            DUE.is("count(" + what + ")", x.count(what), due[what]);
        }
        DUE.is("count(-1)", x.count(-1), Due.BAD);
        DUE.is("count(6)", x.count(6), Due.BAD);
        for (int v : Due.WILD) {
            DUE.is("count(" + v + ")", x.count(v), Due.BAD);
            DUE.is("count(" + v + ") of a new one", new SpelledTones().count(v), Due.BAD);
        }
    }

    private static void countsAtTheirMost() {
        DUE.says("ROWS 0 .. 7; CHORDS 10 at most; 1 to 4 KEYS; SIGNATURE 0 to 14; 16 ACTS; 130 bytes");
        SpelledTones x = DUE.of("k14;" + "c0,1,2,3;".repeat(10));
        for (int row = 0; row < 9; row++) {
            x.row(row, 0, 40);
        }
        for (int i = 0; i < 20; i++) {
            x.key(39, i % 2);
        }
        for (int i = 0; i < 135; i++) {
            x.feed(0);
        }
        int[] due = {8, 10, 40, 14, 16, 130};
        for (int what = 0; what < 6; what++) {
            DUE.is("count(" + what + ")", x.count(what), due[what]);
        }
        x.sign(0);
        DUE.is("SIGNATURE 0", x.count(3), 0);
    }

    private static void statusOfFindings() {
        DUE.says("FINDINGS: -1000010 less 1 NULL, 2 PLACE, 3 KIND, 4 SIZE, 5 STORE; status: the number of its FINDING");
        SpelledTones x = DUE.of("k7;c0;c0;");
        x.row(0, 0, 2);
        x.row(1, 1, 1);
        int[][] found = {{x.set(2, 0, 0), x.status(), 1}, {x.set(0, 2, 0), x.status(), 2}, {x.as(0, 2), x.status(), 3},
            {x.row(0, 0, -1), x.status(), 4}, {x.copy(0, 0, 1, 0, 1), x.status(), 5}, {x.copy(0, 0, 2, 0, 1), x.status(), 1},
            {x.copy(0, 0, 0, 0, 3), x.status(), 2}, {x.drop(2), x.status(), 1}, {x.cost(1, 0), x.status(), 2},
            {x.cost(2, 0), x.status(), 1}, {x.fits(0, 1, 2, 0), x.status(), 2}, {x.fits(0, 2, 1, 0), x.status(), 1}};
        for (int i = 0; i < found.length; i++) {
            DUE.is("finding " + i, found[i][0], -1000010 - found[i][2]);
            DUE.is("status() of finding " + i, found[i][1], found[i][2]);
        }
        DUE.is("asked again", x.status(), 1);
    }

    private static void statusIsLeft() {
        DUE.says("Of the latest call with a ROW, or as(), that was not BAD, STATE, FULL");
        SpelledTones x = new SpelledTones();
        x.row(0, 0, -1);
        x.cost(0, 0);
        DUE.is("STATE of cost", x.status(), 4);
        Due.tell(x, "k7;c0;");
        for (int i = 0; i < 131; i++) {
            x.feed(59);
        }
        DUE.is("FULL of feed", x.status(), 4);
        x.row(8, 0, 1);
        x.row(0, 3, 1);
        x.row(0, 0, 41);
        x.set(8, 0, 0);
        x.copy(8, 0, 0, 0, 0);
        x.copy(0, 0, 8, 0, 0);
        x.drop(8);
        x.cost(8, 0);
        x.fits(1, 0, 1, 0);
        x.fits(0, 8, 1, 0);
        x.fits(0, 0, 0, 0);
        x.fits(0, 0, 2, 0);
        x.fits(0, 0, 1, 3);
        x.as(1, 0);
        x.as(0, 6);
        DUE.is("BAD of calls with a ROW, of as", x.status(), 4);
        x.piece();
        x.key(0, 5);
        x.become(0, 2);
        x.sign(3);
        x.shift(1);
        x.undo();
        x.place(0, 0);
        x.inWindow(0, 0);
        x.head(0);
        x.note(0, 5);
        x.chord(0, 3);
        x.price(0, 0);
        x.drawn(3, 3, 0);
        x.image(0);
        x.restore(0);
        x.kind(0);
        x.ask(0, 0);
        x.trace(0);
        x.fault();
        for (int what = 0; what < 7; what++) {
            x.whole(what);
            x.count(what);
        }
        DUE.is("calls without a ROW", x.status(), 4);
    }

    private static void statusIsCleared() {
        DUE.says("0: it had none, or there was none");
        SpelledTones x = DUE.of("k7;c0;");
        DUE.is("there was none", x.status(), 0);
        cleared(x, "row", x.row(0, 0, -1), x.row(0, 0, 3));
        cleared(x, "set", x.row(0, 0, -1), x.set(0, 0, 9));
        cleared(x, "copy", x.row(0, 0, -1), x.copy(0, 0, 0, 0, 0));
        cleared(x, "cost that is NONE", x.row(0, 0, -1), x.cost(0, 0));
        cleared(x, "cost", x.row(0, 0, -1), x.cost(0, 1));
        cleared(x, "fits, signatures", x.row(0, 0, -1), x.fits(0, 0, 1, 0));
        cleared(x, "fits, kinds", x.row(0, 0, -1), x.fits(0, 0, 1, 1));
        cleared(x, "fits, keys", x.row(0, 0, -1), x.fits(0, 0, 1, 2));
        cleared(x, "as", x.row(0, 0, -1), x.as(0, 0));
        cleared(x, "drop", x.row(0, 0, -1), x.drop(0));
    }

    private static void cleared(SpelledTones x, String what, int before, int answer) {
        DUE.is("a finding ahead of " + what, before, Due.SIZE);
        DUE.holds(what + " is done", answer >= 0 || answer == Due.NONE);
        DUE.is("status() behind " + what, x.status(), 0);
    }
}
