/** Each boundary that the document names of texts: the tape, tokens, faults; promises 6 to 8. */
public final class TextEdgeTest {
    private static final String SORTS = "crlho", TEN = "k7;c0;r1;l2;h3;o4;c5;c6;c7;c8;c9;";
    private static final Due DUE = new Due();

    public static void main(String[] args) {
        tapeOf130();
        emptyThen();
        endOfTheTape();
        everyByteOfTheLaw();
        everyByteOfAChord();
        everyByteBetweenChords();
        everyByteBehindTenChords();
        numbersOfTwoFigures();
        runsOfThreeFigures();
        keysInOrder();
        fifthKey();
        firstTokenThatHasOne();
        leastOfOneToken();
        tenChords();
        barsAndPhrases();
        inPlaceOfTheOneBefore();
        allStays();
        latestFault();
        DUE.end();
    }

    /** What piece() and fault() answer of a text: 0 as number if it is read, and so many chords as place. */
    private static void reads(String text, int place, int number) {
        SpelledTones x = new SpelledTones();
        int due = number == 0 ? place : -1000100 - place;
        DUE.is("piece() of " + text, Due.tell(x, text), due);
        DUE.is("fault() of " + text, x.fault(), number);
        DUE.is("chords of " + text, x.count(1), number == 0 ? place : 0);
    }

    private static void tapeOf130() {
        DUE.says("THE TAPE has at most 130 bytes, that come one by one");
        SpelledTones x = new SpelledTones();
        for (int bad : new int[] {-1, 256, Due.LEAST, Due.MOST}) {
            DUE.is("feed(" + bad + ")", x.feed(bad), Due.BAD);
        }
        StringBuilder text = new StringBuilder("k7;c0,1,2,3;");
        for (int i = 0; i < 9; i++) {
            text.append(i < 8 ? "b;f;c0,1,2,3;" : "b;f;c0,1,2,10;");
        }
        DUE.is("a text of 130", text.length(), 130);
        for (int i = 0; i < 130; i++) {
            DUE.is("byte " + i, x.feed(text.charAt(i)), i + 1);
        }
        DUE.is("one more", x.feed(120), Due.FULL);
        DUE.is("and another", x.feed(0), Due.FULL);
        DUE.is("BAD is ahead of FULL", x.feed(-1), Due.BAD);
        DUE.is("BAD is ahead of FULL", x.feed(256), Due.BAD);
        DUE.is("130 are there", x.count(5), 130);
        DUE.is("what was refused is not read", x.piece(), 10);
        DUE.is("the last byte was", x.note(39, 0), 10);
        reads(text.substring(0, 129) + "x", 129, 1);
        reads(text.substring(0, 129) + ",", 129, 1);
        reads(text.substring(0, 127) + "12;", 127, 2);
        reads("k7;" + "c0,1,2,3;".repeat(10) + "b;f;" + "x".repeat(33), 97, 1);
        SpelledTones y = new SpelledTones();
        for (int letter = 0; letter < 256; letter++) {
            DUE.is("feed(" + letter + ")", y.feed(letter), letter < 130 ? letter + 1 : Due.FULL);
        }
    }

    private static void emptyThen() {
        DUE.says("The tape, empty then, is read");
        SpelledTones x = new SpelledTones();
        DUE.is("an empty one", x.piece(), -1000100);
        DUE.is("a good one", Due.tell(x, "k7;c0;"), 1);
        DUE.is("bytes", x.count(5), 0);
        DUE.is("feed", x.feed(107), 1);
        DUE.is("a bad one", x.piece(), -1000101);
        DUE.is("bytes", x.count(5), 0);
        DUE.is("another good one", Due.tell(x, "k8;c0;c1;"), 2);
        DUE.is("an empty one again", x.piece(), -1000100);
        DUE.is("the piece stays", x.count(1), 2);
        Due.tell(x, "k7;c9999999");
        DUE.is("figures of the text before are not read", Due.tell(x, "k7;c1"), -1000105);
        DUE.is("nor keys of it", Due.tell(x, "k7;c1;"), 1);
    }

    private static void endOfTheTape() {
        DUE.says("FAULTS: 1 it cannot stand there (the end: how many bytes there are)");
        String text = "k9;c2,6,9;r1,7;b;h10;f;l0,3,8;b;f;o1,6;c11;r6,8;";
        String good = "c2,6,9; r1,7; h10; l0,3,8; o1,6; c11; r6,8;";
        for (int n = 0; n < text.length(); n++) {
            String some = text.substring(0, n);
            int chords = 0;
            boolean whole = n > 3 && some.endsWith(";") && !some.endsWith("b;") && !some.endsWith("f;");
            for (String chord : good.split(" ")) {
                chords += some.contains(chord) ? 1 : 0;
            }
            reads(some, whole ? chords : n, whole ? 0 : 1);
        }
        reads("k7;" + "c0,1,2,3;b;f;".repeat(9) + "c0,1,2,3;", 10, 0);
        reads("k07;" + "c0,1,2,3;b;f;".repeat(9) + "c0,1,2,03", 130, 1);
        reads("k7;" + "c0,1,2,3;b;f;".repeat(9) + "c0,1,2,10", 129, 1);
        // 130 tokens of one byte each.
        reads("k7;" + "c0,1,2,3;b;f;".repeat(9) + "c0,1,2,3;b", 130, 1);
    }

    /** One byte behind a beginning: those of goesOn can stand there (the end cannot), any other one cannot. */
    private static void everyByte(String begin, String goesOn, String reads, String notAsTold, int itsPlace) {
        for (int letter = 0; letter < 256; letter++) {
            char c = (char) letter;
            int chords = begin.split("[crlho]").length - 1;
            if (goesOn.indexOf(c) >= 0) {
                reads(begin + c, begin.length() + 1, 1);
            } else if (reads.indexOf(c) >= 0) {
                reads(begin + c, chords, 0);
            } else if (notAsTold.indexOf(c) >= 0) {
                reads(begin + c, itsPlace, 2);
            } else {
                reads(begin + c, begin.length(), 1);
            }
        }
    }

    private static void everyByteOfTheLaw() {
        DUE.says("law: k SIGNATURE ; (0 to 14)");
        everyByte("", "k", "", "", 0);
        everyByte("k", "0123456789", "", "", 0);
        everyByte("k0", "0123456789;", "", "", 0);
        everyByte("k1", "01234;", "", "56789", 1);
        everyByte("k2", ";", "", "0123456789", 1);
        everyByte("k7;", SORTS, "", "", 0);
    }

    private static void everyByteOfAChord() {
        DUE.says("chord: SORT KEY { , KEY } ; nothing else, no blanks");
        for (char sort : SORTS.toCharArray()) {
            everyByte("k7;" + sort, "0123456789", "", "", 0);
        }
        everyByte("k7;c0", "0123456789,", ";", "", 0);
        everyByte("k7;c1", "01,", ";", "23456789", 4);
        everyByte("k7;c9", ",", ";", "0123456789", 4);
        everyByte("k7;c5,", "6789", "", "012345", 6);
        everyByte("k7;c0,1", "01,", ";", "23456789", 6);
        everyByte("k7;c0,1,2", ",", ";", "0123456789", 8);
        everyByte("k7;c0,1,2,3", "", ";", "0123456789", 10);
    }

    private static void everyByteBetweenChords() {
        DUE.says("piece: law chord { [ b ; ] [ f ; ] chord }");
        everyByte("k7;c0;", SORTS + "bf", "", "", 0);
        everyByte("k7;c0;b", ";", "", "", 0);
        everyByte("k7;c0;b;", SORTS + "f", "", "", 0);
        everyByte("k7;c0;f", ";", "", "", 0);
        everyByte("k7;c0;f;", SORTS, "", "", 0);
        everyByte("k7;c0;b;f", ";", "", "", 0);
        everyByte("k7;c0;b;f;", SORTS, "", "", 0);
        everyByte("k7;c0;b;f;c0;", SORTS + "bf", "", "", 0);
    }

    private static void everyByteBehindTenChords() {
        DUE.says("3 a chord more than there is room for (its letter)");
        for (String between : new String[] {"", "b;", "f;", "b;f;"}) {
            String begin = TEN + between;
            for (int letter = 0; letter < 256; letter++) {
                String text = begin + (char) letter;
                boolean sort = SORTS.indexOf(letter) >= 0;
                boolean sign = letter == 'b' && between.isEmpty() || letter == 'f' && !between.contains("f");
                reads(text, sign ? text.length() : begin.length(), sort ? 3 : 1);
            }
        }
        reads(TEN + "c0;", TEN.length(), 3);
        reads(TEN + "b;c0;c0;", TEN.length() + 2, 3);
    }

    private static void numbersOfTwoFigures() {
        DUE.says("2 a NUMBER that is not as told (SIGNATURE 0 to 14, KEYS 0 to 11)");
        for (int n = 0; n < 100; n++) {
            String two = (n < 10 ? "0" : "") + n;
            reads("k" + two + ";c0;", 1, n <= 14 ? 0 : 2);
            reads("k7;c" + two + ";", n <= 11 ? 1 : 4, n <= 11 ? 0 : 2);
            reads("k7;o0;h" + two + ";", n <= 11 ? 2 : 7, n <= 11 ? 0 : 2);
            if (n <= 14) {
                DUE.is("SIGNATURE " + two, DUE.of("k" + two + ";c0;").count(3), n);
            }
            if (n <= 11) {
                DUE.is("KEY " + two, DUE.of("k0;c" + two + ";").note(0, 0), n);
            }
        }
        for (int n = 0; n < 10; n++) {
            DUE.is("SIGNATURE " + n, DUE.of("k" + n + ";c0;").count(3), n);
            DUE.is("KEY " + n, DUE.of("k0;c" + n + ";").note(0, 0), n);
        }
    }

    private static void runsOfThreeFigures() {
        DUE.says("1 .. or is none (a run of three figures, at its first)");
        for (String run : new String[] {"000", "007", "010", "999", "0000", "12345", "0".repeat(50)}) {
            reads("k" + run, 1, 1);
            reads("k" + run + ";c0;", 1, 1);
            reads("k7;c" + run, 4, 1);
            reads("k7;c" + run + ";", 4, 1);
            reads("k7;c5," + run + ";", 6, 1);
            reads(run, 0, 1);
            reads("k7" + ";c0;" + run, 6, 1);
            reads("k7;" + run + ";", 3, 1);
        }
        reads("k7;" + "c0,1,2,3;b;f;".repeat(9) + "c0,1,2,003", 127, 1);
        reads("k7;" + "c0,1,2,3;b;f;".repeat(9) + "c00;", 10, 0);
    }

    private static void keysInOrder() {
        DUE.says("1 to 4 KEYS, 0 to 11, each above the one ahead");
        for (int a = 0; a < 12; a++) {
            reads("k7;c" + a + ";", 1, 0);
            for (int b = 0; b < 12; b++) {
                String begin = "k7;c" + a + ",";
                reads(begin + b + ";", b > a ? 1 : begin.length(), b > a ? 0 : 2);
            }
        }
        reads("k7;c0,1,2,3;", 1, 0);
        reads("k7;c8,9,10,11;", 1, 0);
        reads("k7;c0,2,1;", 8, 2);
        reads("k7;c0,2,2;", 8, 2);
        reads("k7;c0,2,5,4;", 10, 2);
        reads("k7;c0,2,5,0;", 10, 2);
        reads("k7;c11;c0;", 2, 0);
        reads("k7;c;", 4, 1);
    }

    private static void fifthKey() {
        DUE.says("1 (a fifth KEY: the , ahead of it)");
        reads("k7;c0,1,2,3,4;", 11, 1);
        reads("k7;c0,1,2,3,", 11, 1);
        reads("k7;c0,1,2,3,3;", 11, 1);
        reads("k7;c0,1,2,3,12;", 11, 1);
        reads("k7;c0,1,2,3,444;", 11, 1);
        reads("k7;c0,1,2,3;c0,1,2,3,4;", 20, 1);
        reads("k7;c8,9,10,11,", 13, 1);
        reads("k7;c0,1,2,3;c0,1,2,3;", 2, 0);
    }

    private static void firstTokenThatHasOne() {
        DUE.says("FAULTS, the first TOKEN that has one (its first byte)");
        reads("k15;x", 1, 2);
        reads("k15", 1, 2);
        reads("k7x;c99", 2, 1);
        reads("k7;c12;c000;", 4, 2);
        reads("k7;c0;c10,9;x", 10, 2);
        reads("k7;c0,1,2,3,4;c99;", 11, 1);
        reads("kk", 1, 1);
        reads("k7;cc0;", 4, 1);
        reads(TEN + "c99;", TEN.length(), 3);
        reads(TEN.replace("c9", "c99") + "c0;", TEN.length() - 2, 2);
    }

    private static void leastOfOneToken() {
        DUE.says("of one TOKEN the least");
        reads("99", 0, 1);
        reads("k7;99;", 3, 1);
        reads("k7;c0;99", 6, 1);
        reads("k7;c0;b99", 7, 1);
        reads("k7,15", 2, 1);
        reads("k7;c999;", 4, 1);
        reads("k999;", 1, 1);
        reads(TEN + "99", TEN.length(), 1);
        reads(TEN + "k", TEN.length(), 1);
        reads(TEN + "b;b", TEN.length() + 2, 1);
    }

    private static void tenChords() {
        DUE.says("CHORDS 0 .. 9, 10 at most; NOTES 0, 1, .. are all KEYS of all CHORDS, in this order");
        SpelledTones x = DUE.of("k7;" + "c0,1,2,3;r4,5,6,7;l8,9,10,11;h0,1,2,3;o4,5,6,7;".repeat(2));
        DUE.is("chords", x.count(1), 10);
        DUE.is("notes", x.count(2), 40);
        for (int note = 0; note < 40; note++) {
            DUE.is("key of note " + note, x.note(note, 0), note % 20 % 12);
            DUE.is("chord of note " + note, x.note(note, 1), note / 4);
        }
        for (int chord = 0; chord < 10; chord++) {
            DUE.is("kind of chord " + chord, x.kind(chord), 1 + chord % 5);
            DUE.is("size of chord " + chord, x.chord(chord, 0), 4);
            DUE.is("first note of chord " + chord, x.chord(chord, 1), 4 * chord);
        }
        DUE.is("note 40", x.note(40, 0), Due.BAD);
        DUE.is("chord 10", x.chord(10, 0), Due.BAD);
        DUE.is("kind of chord 10", x.kind(10), Due.BAD);
        SpelledTones y = DUE.of(TEN);
        DUE.is("notes of single ones", y.count(2), 10);
        DUE.is("the last", y.note(9, 1), 9);
    }

    private static void barsAndPhrases() {
        DUE.says("b: a new bar begins with the chord behind it; f: a new phrase does");
        SpelledTones x = DUE.of("k7;c0;c0;b;c0;f;c0;b;f;c0;c0;");
        int[] bars = {1, 0, 1, 0, 1, 0};
        int[] phrases = {1, 0, 0, 1, 1, 0};
        for (int chord = 0; chord < 6; chord++) {
            DUE.is("bar, chord " + chord, x.chord(chord, 4), bars[chord]);
            DUE.is("phrase, chord " + chord, x.chord(chord, 5), phrases[chord]);
        }
        reads("k7;b;c0;", 3, 1);
        reads("k7;f;c0;", 3, 1);
        reads("k7;c0;f;b;c0;", 8, 1);
        reads("k7;c0;b;f;", 10, 1);
        Due.tell(x, "k7;c0;b;f;");
        Due.tell(x, "k7;c0;c0;");
        DUE.is("what a text with a fault began is not kept", x.chord(1, 4) + x.chord(1, 5), 0);
    }

    private static void inPlaceOfTheOneBefore() {
        DUE.says("A PIECE that is read stands in place of the one before (none at first); no ACT can be undone");
        SpelledTones x = new SpelledTones();
        DUE.is("none at first", x.count(1) + x.count(2) + x.count(3) + x.count(4), 0);
        Due.tell(x, TEN);
        x.key(0, 5);
        x.shift(1);
        DUE.is("two acts", x.count(4), 2);
        DUE.is("a smaller one", Due.tell(x, "k0;o11;"), 1);
        DUE.is("acts", x.count(4), 0);
        DUE.is("undo()", x.undo(), Due.STATE);
        DUE.is("notes", x.count(2), 1);
        DUE.is("note 1", x.note(1, 0), Due.BAD);
        DUE.is("chord 1", x.chord(1, 0), Due.BAD);
        DUE.is("signature", x.count(3), 0);
        DUE.is("kind", x.kind(0), 5);
        DUE.is("the one before again", Due.tell(x, TEN), 10);
        DUE.is("its first key, as told", x.note(0, 0), 0);
        DUE.is("its signature, as told", x.count(3), 7);
    }

    private static void allStays() {
        DUE.says("-1000100 less the place of a FAULT: all stays");
        SpelledTones x = DUE.of("k9;c2,6;b;f;r1;");
        x.key(0, 3);
        x.ask(0, 0);
        x.image(1);
        x.row(2, 1, 7);
        x.as(0, 4);
        DUE.is("a fault behind a whole piece", Due.tell(x, "k0;o0;o1;o2;b;x"), -1000114);
        DUE.is("chords", x.count(1), 2);
        DUE.is("notes", x.count(2), 3);
        DUE.is("signature", x.count(3), 9);
        DUE.is("kind", x.kind(0), 1);
        DUE.is("bar", x.chord(1, 4), 1);
        DUE.is("phrase", x.chord(1, 5), 1);
        DUE.is("key", x.note(0, 0), 3);
        DUE.is("status", x.status(), 3);
        DUE.is("the trace", x.trace(0), 11);
        DUE.is("the image", x.restore(0), Due.STATE);
        DUE.is("the act", x.undo(), 0);
        DUE.is("key", x.note(0, 0), 2);
        DUE.is("the row", x.drop(2), 7);
        DUE.is("the other image", x.restore(1), 1);
        DUE.is("its key", x.note(0, 0), 3);
    }

    private static void latestFault() {
        DUE.says("The number of the latest FAULT; 0 before one");
        SpelledTones x = new SpelledTones();
        DUE.is("at first", x.fault(), 0);
        x.feed(-1);
        x.row(0, 0, -1);
        x.set(0, 0, 0);
        x.sign(0);
        DUE.is("refusals and findings are none", x.fault(), 0);
        Due.tell(x, "k7;c0;");
        DUE.is("behind a good text", x.fault(), 0);
        String[] texts = {"k", "k15;", TEN + "c0;", "k7;c0;", "k7;c12;", "k7;c0;", ""};
        int[] numbers = {1, 2, 3, 3, 2, 2, 1};
        for (int i = 0; i < texts.length; i++) {
            Due.tell(x, texts[i]);
            DUE.is("behind " + texts[i], x.fault(), numbers[i]);
        }
    }
}
