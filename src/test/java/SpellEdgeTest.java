/** Each boundary that the document names of names and signs: PRINTED, FITS, DRAWN; promises 17, 22, 23. */
public final class SpellEdgeTest {
    private static final int F = 0, C = 1, G = 2, D = 3, A = 4, E = 5, B = 6;
    private static final Due DUE = new Due();

    public static void main(String[] args) {
        headAtTheBeginningOfABar();
        inForceWithinABar();
        withinAChord();
        doubleSigns();
        notesBeyond();
        fitsAll();
        fitsNone();
        fitsSignatures();
        fitsKinds();
        fitsKeys();
        fitsThePieceAsItIs();
        howManyLetters();
        refusalsOfFits();
        foretold();
        noneDrawn();
        drawnOneByOne();
        drawnByEdgesOfSeeds();
        refusalsOfDrawn();
        DUE.end();
    }

    /** What is printed with each note of a piece. */
    private static void printed(String text, int... signs) {
        SpelledTones x = DUE.of(text);
        int count = 0;
        for (int note = 0; note < signs.length; note++) {
            DUE.is("sign of note " + note + " of " + text, x.note(note, 5), signs[note]);
            count += signs[note] == Due.NONE ? 0 : 1;
        }
        DUE.is("notes of " + text, x.count(2), signs.length);
        DUE.is("how many are PRINTED of " + text, x.whole(2), count);
    }

    private static void headAtTheBeginningOfABar() {
        DUE.says("for each LETTER ALTER is in force, HEAD at the beginning of a bar");
        printed("k7;r6;", 1);
        printed("k7;r6;b;r6;", 1, 1);
        printed("k7;r6;b;r6;b;r6;r6;", 1, 1, 1, Due.NONE);
        printed("k8;r6;b;r6;", Due.NONE, Due.NONE);
        printed("k8;r6;h5;b;h6;", Due.NONE, 0, Due.NONE);
        printed("k8;r6;h5;b;h5;", Due.NONE, 0, 0);
        printed("k14;c1,3,6;b;c8,10,11;", Due.NONE, Due.NONE, Due.NONE, Due.NONE, Due.NONE, 0);
        printed("k0;c1,3,6;b;c8,10,11;", Due.NONE, Due.NONE, Due.NONE, Due.NONE, Due.NONE, Due.NONE);
        printed("k7;c0,4,7,11;", Due.NONE, Due.NONE, Due.NONE, Due.NONE);
    }

    private static void inForceWithinABar() {
        DUE.says("a NOTE whose ALTER is not that which is in force for its LETTER is PRINTED with a sign, and its ALTER is in force then");
        printed("k7;r6;r6;r6;", 1, Due.NONE, Due.NONE);
        printed("k7;r6;h5;h6;h6;", 1, 0, 1, Due.NONE);
        printed("k7;r6;f;r6;", 1, Due.NONE);
        printed("k7;r6;b;f;r6;", 1, 1);
        printed("k7;r6;h5;b;h5;", 1, 0, Due.NONE);
        printed("k7;r6;o6;o5;o5;", 1, Due.NONE, 0, Due.NONE);
        printed("k7;r1,6;r1,6;", 1, 1, Due.NONE, Due.NONE);
        printed("k7;l10;h11;h10;", -1, 0, -1);
    }

    private static void withinAChord() {
        DUE.says("PRINTED: NOTE by NOTE");
        // In windows from -3 on f and f sharp share a letter; a loose chord costs nothing by that.
        SpelledTones x = DUE.of("k7;r6,8;o5,6;");
        DUE.is("f sharp", x.note(0, 5), 1);
        DUE.is("f behind it", x.note(2, 5), 0);
        DUE.is("f sharp beside it", x.note(3, 5), 1);
        x.key(3, 5);
        DUE.is("two alike: the first", x.note(2, 5), 0);
        DUE.is("two alike: the second", x.note(3, 5), Due.NONE);
    }

    private static void doubleSigns() {
        DUE.says("ALTER (-2 to 2) is PRINTED as it is");
        SpelledTones x = DUE.of("k14;r1,2,7,9;");
        int[] names = {19, 14, 13, 15};
        for (int note = 0; note < 4; note++) {
            DUE.is("NAME " + note, x.note(note, 2), names[note]);
            DUE.is("ALTER " + note, x.note(note, 4), 2);
            DUE.is("sign " + note, x.note(note, 5), 2);
        }
        SpelledTones y = DUE.of("k0;l0,2,3,10;");
        int[] low = {-12, -10, -15, -14};
        for (int note = 0; note < 4; note++) {
            DUE.is("NAME " + note, y.note(note, 2), low[note]);
            DUE.is("ALTER " + note, y.note(note, 4), -2);
            DUE.is("sign " + note, y.note(note, 5), -2);
        }
    }

    private static void notesBeyond() {
        DUE.says("Of a NOTE: 0 its KEY .. 5 what is PRINTED (its ALTER; NONE: nothing). BAD.");
        SpelledTones x = DUE.of("k7;c2;r4,6;");
        int[][] due = {{2, 0, 2, D, 0, Due.NONE}, {4, 1, 4, E, 0, Due.NONE}, {6, 1, 6, F, 1, 1}};
        for (int note = 0; note < 3; note++) {
            for (int what = 0; what < 6; what++) {
                DUE.is("note(" + note + ", " + what + ")", x.note(note, what), due[note][what]);
            }
            DUE.is("note(" + note + ", -1)", x.note(note, -1), Due.BAD);
            DUE.is("note(" + note + ", 6)", x.note(note, 6), Due.BAD);
        }
        for (int what = -1; what <= 6; what++) {
            DUE.is("note(-1, " + what + ")", x.note(-1, what), Due.BAD);
            DUE.is("note(3, " + what + ")", x.note(3, what), Due.BAD);
            DUE.is("without a piece", new SpelledTones().note(0, what), Due.BAD);
        }
        for (int v : Due.WILD) {
            DUE.is("note(" + v + ", 0)", x.note(v, 0), Due.BAD);
            DUE.is("note(0, " + v + ")", x.note(0, v), Due.BAD);
        }
    }

    /** A loose chord at first has the lowest window by each signature: c is d double flat there. */
    private static void fitsAll() {
        DUE.says("SIGNATURES (bits) by which it is so; KINDS (bits 1 to 5) of a CHORD; KEYS (bits)");
        SpelledTones x = DUE.of("k7;o0;o1;");
        Due.items(x, 0, 0, D);
        DUE.is("all fifteen SIGNATURES", x.fits(0, 0, 1, 0), 0x7fff);
        DUE.is("all twelve KEYS of the chord behind", x.fits(1, 0, 1, 2), 0xfff);
        SpelledTones y = DUE.of("k7;c0,4;h7;");
        Due.items(y, 0, 0, C, E);
        DUE.is("all five KINDS of the chord behind", y.fits(1, 0, 2, 1), 0x3e);
    }

    private static void fitsNone() {
        DUE.says("A row tells LETTERS of NOTES 0, 1, .. by BEST");
        SpelledTones x = DUE.of("k7;o0;o1;");
        for (int v : new int[] {-1, 7, D + 7, D - 7, 256 + D, 65536 + D, Due.LEAST, Due.MOST}) {
            Due.items(x, 0, 2, v);
            for (int what = 0; what < 3; what++) {
                DUE.is(v + " is no LETTER, what " + what, x.fits(0, 0, 1, what), 0);
                DUE.is("status()", x.status(), 0);
            }
        }
        Due.items(x, 0, 0, 256 + D);
        DUE.is("a byte has its lowest bits", x.fits(0, 0, 1, 0), 0x7fff);
        Due.items(x, 0, 1, 65536 + D);
        DUE.is("a short has its lowest bits", x.fits(0, 0, 1, 0), 0x7fff);
        Due.items(x, 0, 0, D, D, B);
        DUE.is("the second, too", x.fits(0, 0, 2, 0), lettersOf("o0;o1;", D, D));
        Due.items(x, 0, 0, D, C);
        DUE.is("the second does not", x.fits(0, 0, 2, 0), lettersOf("o0;o1;", D, C));
    }

    /** SIGNATURES by which notes have these letters, told by making each of them a piece. */
    private static int lettersOf(String chords, int... letters) {
        int bits = 0;
        for (int v = 0; v <= 14; v++) {
            SpelledTones x = DUE.of("k" + v + ";" + chords);
            boolean fits = true;
            for (int note = 0; note < letters.length; note++) {
                fits &= x.note(note, 3) == letters[note];
            }
            bits |= fits ? 1 << v : 0;
        }
        return bits;
    }

    private static void fitsSignatures() {
        DUE.says("SIGNATURES (bits) by which it is so");
        SpelledTones x = DUE.of("k7;c0,4,7;");
        Due.items(x, 0, 0, C, E, G);
        DUE.is("c e g: from one flat to six sharps", x.fits(0, 0, 3, 0), 0x3fc0);
        SpelledTones y = DUE.of("k7;c11;");
        for (int letter = 0; letter < 7; letter++) {
            Due.items(y, 0, 0, letter);
            DUE.is("letter " + letter, y.fits(0, 0, 1, 0), lettersOf("c11;", letter));
        }
        Due.items(y, 0, 0, C);
        DUE.holds("by seven flats, the first bit", (y.fits(0, 0, 1, 0) & 1) == 1);
        Due.items(y, 0, 0, B);
        DUE.holds("by six sharps, the last bit but one", (y.fits(0, 0, 1, 0) >> 13 & 1) == 1);
    }

    private static void fitsKinds() {
        DUE.says("KINDS (bits 1 to 5) of a CHORD");
        SpelledTones x = DUE.of("k7;c6;");
        Due.items(x, 0, 0, F);
        DUE.is("f sharp: a rising one alone", x.fits(0, 0, 1, 1), 1 << 2);
        x.become(0, 2);
        DUE.is("whatever it is now", x.fits(0, 0, 1, 1), 1 << 2);
        x.key(0, 5);
        DUE.is("f: all but a loose one, which has g double flat", x.fits(0, 0, 1, 1), 0x1e);
        x.undo();
        Due.items(x, 0, 0, G);
        DUE.is("g flat: all others", x.fits(0, 0, 1, 1), 1 << 1 | 1 << 3 | 1 << 4 | 1 << 5);
        Due.items(x, 0, 0, A);
        DUE.is("a: none", x.fits(0, 0, 1, 1), 0);
    }

    private static void fitsKeys() {
        DUE.says("KEYS (bits) of the first NOTE of a CHORD");
        SpelledTones x = DUE.of("k7;c0,4,7;c2,5;");
        for (int letter = 0; letter < 7; letter++) {
            Due.items(x, 0, 0, letter);
            int bits = 0;
            for (int key = 0; key < 12; key++) {
                SpelledTones y = DUE.of("k7;c0,4,7;c2,5;");
                y.key(0, key);
                bits |= y.note(0, 3) == letter ? 1 << key : 0;
            }
            DUE.is("letter " + letter, x.fits(0, 0, 1, 2), bits);
            DUE.is("not of the second note", x.note(1, 0), 4);
        }
        Due.items(x, 0, 0, C, E, G, D);
        DUE.is("d of the second chord", x.fits(1, 0, 4, 2) & 1 << 2, 1 << 2);
        DUE.is("c cannot be d", x.fits(1, 0, 4, 2) & 1, 0);
    }

    /** Each of the three asked first behind a change. */
    private static void fitsThePieceAsItIs() {
        DUE.says("SIGNATURES; KINDS; KEYS, of the PIECE as it is now");
        int[] due = {lettersOf("c0,4,7;", C), 0x1e, 1};
        for (int what = 0; what < 3; what++) {
            SpelledTones x = DUE.of("k7;c0,4,7;");
            Due.items(x, 0, 0, C);
            DUE.is("as told, what " + what, x.fits(0, 0, 1, what), due[what]);
            x.key(1, 6);
            x.key(2, 11);
            SpelledTones y = DUE.of("k7;c0,6,11;");
            Due.items(y, 0, 0, C);
            int now = y.fits(0, 0, 1, what);
            DUE.is("behind acts, what " + what, x.fits(0, 0, 1, what), now);
            Due.tell(x, "k7;c7;");
            DUE.is("of another piece, what " + what, x.fits(0, 0, 1, what), what == 2 ? fitOfOne(C) : 0);
            Due.tell(x, "k7;c0,6,11;");
            DUE.is("of the one before, what " + what, x.fits(0, 0, 1, what), now);
        }
    }

    /** KEYS of a piece of one plain note by which it has a letter. */
    private static int fitOfOne(int letter) {
        int bits = 0;
        for (int key = 0; key < 12; key++) {
            bits |= DUE.of("k7;c" + key + ";").note(0, 3) == letter ? 1 << key : 0;
        }
        return bits;
    }

    private static void howManyLetters() {
        DUE.says("n ITEMS (no more than NOTES) of a ROW from 0 on. BAD: .. n 1 on; PLACE");
        SpelledTones x = DUE.of("k7;c0,4,7;o2;");
        x.row(0, 0, 40);
        for (int n : new int[] {0, -1, Due.LEAST, 5, 40, 41, Due.MOST}) {
            DUE.is("n " + n, x.fits(0, 0, n, 0), Due.BAD);
            DUE.is("n " + n + " of a missing row", x.fits(0, 1, n, 0), Due.BAD);
        }
        Due.items(x, 0, 0, C, E, G, D, 99);
        DUE.holds("n 4, all notes", (x.fits(0, 0, 4, 0) >> 7 & 1) == 1);
        DUE.holds("n 1", (x.fits(0, 0, 1, 0) >> 7 & 1) == 1);
        Due.items(x, 0, 0, C, E, G);
        DUE.holds("n 3 of 3 items", (x.fits(0, 0, 3, 0) >> 7 & 1) == 1);
        for (int what = 0; what < 3; what++) {
            DUE.is("n 4 of 3 items", x.fits(0, 0, 4, what), Due.PLACE);
            DUE.is("status()", x.status(), 2);
        }
        DUE.is("n 5 of 3 items", x.fits(0, 0, 5, 0), Due.BAD);
        x.row(0, 2, 0);
        DUE.is("n 1 of no items", x.fits(0, 0, 1, 0), Due.PLACE);
        SpelledTones most = DUE.of("k7;" + "o0,1,2,3;".repeat(10));
        most.row(0, 0, 40);
        for (int note = 0; note < 40; note++) {
            most.set(0, note, most.note(note, 3));
        }
        DUE.is("n 40", most.fits(9, 0, 40, 0), 0x7fff);
        DUE.is("n 41", most.fits(9, 0, 41, 0), Due.BAD);
        most.set(0, 39, 7);
        DUE.is("the last does not fit", most.fits(9, 0, 40, 0), 0);
        DUE.is("n 39", most.fits(9, 0, 39, 0), 0x7fff);
    }

    private static void refusalsOfFits() {
        DUE.says("BAD: CHORD (always), ROW, n 1 on, what; NULL; PLACE");
        SpelledTones x = DUE.of("k7;c0;c4;");
        Due.items(x, 0, 0, C, E);
        for (int what = 0; what < 3; what++) {
            DUE.holds("chord 0", x.fits(0, 0, 1, what) > 0);
            DUE.holds("chord 1", x.fits(1, 0, 1, what) > 0);
            for (int chord : new int[] {-1, 2, Due.LEAST, Due.MOST}) {
                DUE.is("chord " + chord + ", what " + what, x.fits(chord, 0, 1, what), Due.BAD);
            }
            DUE.is("row -1", x.fits(0, -1, 1, what), Due.BAD);
            DUE.is("row 8", x.fits(0, 8, 1, what), Due.BAD);
            DUE.is("a missing row", x.fits(0, 7, 1, what), Due.NULL);
            DUE.is("chord 2 of a missing row", x.fits(2, 7, 1, what), Due.BAD);
            DUE.is("without a piece", new SpelledTones().fits(0, 0, 1, what), Due.BAD);
        }
        for (int what : new int[] {-1, 3, Due.LEAST, Due.MOST}) {
            DUE.is("what " + what, x.fits(0, 0, 1, what), Due.BAD);
            DUE.is("what " + what + " of a missing row", x.fits(0, 7, 1, what), Due.BAD);
        }
    }

    private static void foretold() {
        DUE.says("FORETOLD (nothing changes)");
        SpelledTones x = DUE.of("k9;c2,6;r1;b;f;l0,3;");
        Due.items(x, 0, 0, D, F, C);
        int[] before = picture(x);
        for (int what = 0; what < 3; what++) {
            for (int chord = 0; chord < 3; chord++) {
                x.fits(chord, 0, 3, what);
            }
        }
        x.drawn(20, 4711, 0);
        x.drawn(20, 4711, 1);
        x.whole(3);
        x.whole(5);
        x.cost(0, 0);
        x.price(0, 3);
        int[] behind = picture(x);
        for (int i = 0; i < before.length; i++) {
            DUE.is("answer " + i, behind[i], before[i]);
        }
    }

    private static int[] picture(SpelledTones x) {
        int[] seen = new int[60];
        int n = 0;
        for (int what = 0; what < 6; what++) {
            seen[n++] = x.count(what);
            for (int note = 0; note < 5; note++) {
                seen[n++] = x.note(note, what);
            }
            for (int chord = 0; chord < 3; chord++) {
                seen[n++] = x.chord(chord, what);
            }
        }
        for (int chord = 0; chord < 3; chord++) {
            seen[n++] = x.kind(chord);
        }
        seen[n++] = x.whole(0);
        seen[n++] = x.whole(1);
        seen[n] = x.whole(2);
        return seen;
    }

    private static void noneDrawn() {
        DUE.says("DRAWN n times (0 to 20)");
        SpelledTones x = DUE.of("k7;c6;c5;");
        for (int seed : new int[] {1, 2, 999999}) {
            DUE.is("COST together of none", x.drawn(0, seed, 0), 0);
            DUE.is("PRINTED of none", x.drawn(0, seed, 1), x.whole(2));
        }
    }

    private static void drawnOneByOne() {
        DUE.says("ahead of each X becomes the rest of (X times 16807) by 2147483647");
        // 16807 is odd, by 32 it is 525, of that 9 is left by 12; then 282475249: odd, 8827351, 7.
        SpelledTones x = DUE.of("k7;c6;c5;");
        SpelledTones a = DUE.of("k7;c6;c9;");
        SpelledTones g = DUE.of("k7;c6;c7;");
        DUE.is("one", x.drawn(1, 1, 0), a.whole(0));
        DUE.is("PRINTED of one", x.drawn(1, 1, 1), a.whole(2));
        DUE.is("two", x.drawn(2, 1, 0), a.whole(0) + g.whole(0));
        DUE.is("PRINTED of two", x.drawn(2, 1, 1), g.whole(2));
        // The third is 282475249 times 16807, less 2210 times 2147483647: 1622650073, odd, by 32 it is 50707814, 2.
        SpelledTones d = DUE.of("k7;c6;c2;");
        DUE.is("three", x.drawn(3, 1, 0), a.whole(0) + g.whole(0) + d.whole(0));
    }

    /** Each draw made by key(), which leaves a key as it is if it is that. */
    private static void drawnByEdgesOfSeeds() {
        DUE.says("DRAWN n times (0 to 20) by a SEED (1 to 999999)");
        String[] texts = {"k4;c6;", "k12;c1,5;r6,9;l2;", "k7;" + "c0,1,2,3;".repeat(10)};
        for (String text : texts) {
            for (int seed : new int[] {1, 2, 127773, 999998, 999999}) {
                SpelledTones x = DUE.of(text);
                SpelledTones y = DUE.of(text);
                long draw = seed;
                int sum = 0;
                for (int n = 1; n <= 20; n++) {
                    draw = draw * 16807 % 2147483647L;
                    y.key((int) (draw % y.count(2)), (int) (draw / 32 % 12));
                    sum += y.whole(0);
                    DUE.is(n + " by " + seed + " of " + text, x.drawn(n, seed, 0), sum);
                    DUE.is("PRINTED of " + n + " by " + seed + " of " + text, x.drawn(n, seed, 1), y.whole(2));
                }
            }
        }
    }

    private static void refusalsOfDrawn() {
        DUE.says("drawn: BAD; STATE: no PIECE (ahead of BAD)");
        SpelledTones x = DUE.of("k7;c6;c5;");
        SpelledTones none = new SpelledTones();
        int[][] bad = {{-1, 1, 0}, {21, 1, 0}, {Due.LEAST, 1, 0}, {Due.MOST, 1, 0}, {1, 0, 0}, {1, -1, 0}, {1, 1000000, 0},
            {1, Due.LEAST, 0}, {1, Due.MOST, 0}, {1, 1, -1}, {1, 1, 2}, {1, 1, Due.LEAST}, {1, 1, Due.MOST}, {0, 0, 0},
            {0, 1, 2}, {20, 1000000, 1}, {21, 0, 2}};
        for (int[] b : bad) {
            String with = b[0] + ", " + b[1] + ", " + b[2];
            DUE.is("drawn(" + with + ")", x.drawn(b[0], b[1], b[2]), Due.BAD);
            DUE.is("drawn(" + with + ") without a piece", none.drawn(b[0], b[1], b[2]), Due.STATE);
        }
        DUE.is("without a piece", none.drawn(1, 1, 0), Due.STATE);
        DUE.holds("20 by 999999", x.drawn(20, 999999, 0) > 0);
    }
}
