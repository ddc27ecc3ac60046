/** Each boundary that the document names of acts and images: promises 9 to 13, 24, 25. */
public final class ActsEdgeTest {
    private static final Due DUE = new Due();

    public static void main(String[] args) {
        keys();
        outOfOrderOrAlike();
        kinds();
        signatures();
        shiftsOfKeys();
        shiftsOfSignatures();
        noPieceAheadOfBad();
        latestFirst();
        sixteenAtMost();
        oldestOfEachSort();
        anyOrderOfSorts();
        actsBehindUndo();
        refusedActs();
        bestFollowsActs();
        noActCanBeUndone();
        images();
        imagesOfTheirOwn();
        refusalsOfImages();
        DUE.end();
    }

    private static void keys() {
        DUE.says("The KEY of a NOTE is another (0 to 11): what it was. BAD; STATE: it is that.");
        SpelledTones x = DUE.of("k7;c0,4;o11;");
        int before = 0;
        for (int v : new int[] {11, 0, 1, 10, 5}) {
            DUE.is("key(0, " + v + ")", x.key(0, v), before);
            DUE.is("it is that", x.key(0, v), Due.STATE);
            DUE.is("its KEY", x.note(0, 0), v);
            before = v;
        }
        DUE.is("the last note", x.key(2, 0), 11);
        DUE.is("no other one", x.note(1, 0), 4);
        DUE.is("acts", x.count(4), 6);
        for (int v : new int[] {-1, 12, Due.LEAST, Due.MOST}) {
            DUE.is("key(0, " + v + ")", x.key(0, v), Due.BAD);
        }
        for (int note : new int[] {-1, 3, 40, Due.LEAST, Due.MOST}) {
            DUE.is("key(" + note + ", 0)", x.key(note, 0), Due.BAD);
            DUE.is("key(" + note + ", 12)", x.key(note, 12), Due.BAD);
        }
        DUE.is("acts", x.count(4), 6);
        DUE.is("without a piece", new SpelledTones().key(0, 0), Due.BAD);
    }

    private static void outOfOrderOrAlike() {
        DUE.says("CHORDS stay as they are told, KEYS of a CHORD may be out of order then, or alike");
        SpelledTones x = DUE.of("k7;c0,4,7;r2,9;");
        DUE.is("alike", x.key(1, 0), 4);
        DUE.is("out of order", x.key(0, 11), 0);
        DUE.is("alike across chords", x.key(3, 7), 2);
        int[] keys = {11, 0, 7, 7, 9};
        for (int note = 0; note < 5; note++) {
            DUE.is("key of " + note, x.note(note, 0), keys[note]);
            DUE.is("chord of " + note, x.note(note, 1), note / 3);
        }
        DUE.is("size of 0", x.chord(0, 0), 3);
        DUE.is("size of 1", x.chord(1, 0), 2);
        DUE.is("first of 1", x.chord(1, 1), 3);
        x.key(1, 7);
        DUE.is("two of one LETTER", x.price(0, -4), 5);
    }

    private static void kinds() {
        DUE.says("The KIND (1 to 5) of a CHORD is another: what it was. BAD; STATE: it is that.");
        for (int from = 1; from <= 5; from++) {
            for (int to = 1; to <= 5; to++) {
                SpelledTones x = DUE.of("k7;c0;" + "_crlho".charAt(from) + "0;");
                DUE.is("become(1, " + to + ") of " + from, x.become(1, to), from == to ? Due.STATE : from);
                DUE.is("kind(1)", x.kind(1), to);
                DUE.is("kind(0)", x.kind(0), 1);
                DUE.is("acts", x.count(4), from == to ? 0 : 1);
            }
        }
        SpelledTones x = DUE.of("k7;c0;o0;");
        for (int kind : new int[] {0, 6, -1, Due.LEAST, Due.MOST}) {
            DUE.is("become(0, " + kind + ")", x.become(0, kind), Due.BAD);
        }
        for (int chord : new int[] {-1, 2, 10, Due.LEAST, Due.MOST}) {
            DUE.is("become(" + chord + ", 1)", x.become(chord, 1), Due.BAD);
            DUE.is("become(" + chord + ", 0)", x.become(chord, 0), Due.BAD);
        }
        DUE.is("acts", x.count(4), 0);
        DUE.is("without a piece", new SpelledTones().become(0, 1), Due.BAD);
    }

    private static void signatures() {
        DUE.says("SIGNATURE is another (0 to 14): what it was. BAD; STATE: .. it is that.");
        SpelledTones x = DUE.of("k7;c0;");
        int before = 7;
        for (int v : new int[] {0, 14, 1, 13, 7}) {
            DUE.is("sign(" + v + ")", x.sign(v), before);
            DUE.is("it is that", x.sign(v), Due.STATE);
            DUE.is("SIGNATURE", x.count(3), v);
            before = v;
        }
        DUE.is("sign(-1)", x.sign(-1), Due.BAD);
        DUE.is("sign(15)", x.sign(15), Due.BAD);
        for (int v : Due.WILD) {
            DUE.is("sign(" + v + ")", x.sign(v), Due.BAD);
        }
        DUE.is("acts", x.count(4), 5);
        DUE.is("keys stay", x.note(0, 0), 0);
    }

    private static void shiftsOfKeys() {
        DUE.says("SIGNATURE by t, each KEY by 7 times t, by 12 what is left over");
        for (int t = -6; t <= 6; t++) {
            if (t == 0) {
                continue;
            }
            SpelledTones x = DUE.of("k7;c0,1,2,3;r4,5,6,7;l8,9,10,11;");
            DUE.is("shift(" + t + ")", x.shift(t), 7 + t);
            for (int note = 0; note < 12; note++) {
                int key = note;
                for (int i = 0; i < Math.abs(t); i++) {
                    key = (key + (t > 0 ? 7 : 5)) % 12;
                }
                DUE.is("key " + note + " shifted by " + t, x.note(note, 0), key);
            }
            DUE.is("kinds stay", x.kind(0) * 100 + x.kind(1) * 10 + x.kind(2), 123);
            DUE.is("undone", x.undo(), 0);
            DUE.is("SIGNATURE", x.count(3), 7);
            for (int note = 0; note < 12; note++) {
                DUE.is("key " + note + " behind undo", x.note(note, 0), note);
            }
        }
    }

    private static void shiftsOfSignatures() {
        DUE.says("All is shifted by t (-6 to 6): SIGNATURE then. BAD; STATE: .. t is 0, SIGNATURE would be beyond 0 to 14.");
        for (int signature = 0; signature <= 14; signature++) {
            for (int t = -8; t <= 8; t++) {
                SpelledTones x = DUE.of("k" + signature + ";c5;");
                int then = signature + t;
                int due = t < -6 || t > 6 ? Due.BAD : t == 0 || then < 0 || then > 14 ? Due.STATE : then;
                DUE.is("shift(" + t + ") from " + signature, x.shift(t), due);
                DUE.is("SIGNATURE", x.count(3), due < 0 ? signature : then);
                DUE.is("acts", x.count(4), due < 0 ? 0 : 1);
            }
        }
        SpelledTones x = DUE.of("k7;c5;");
        for (int v : Due.WILD) {
            DUE.is("shift(" + v + ")", x.shift(v), Due.BAD);
        }
    }

    private static void noPieceAheadOfBad() {
        DUE.says("sign, shift: STATE: no PIECE (ahead of BAD)");
        SpelledTones x = new SpelledTones();
        for (int v : new int[] {-1, 0, 7, 14, 15, Due.LEAST, Due.MOST}) {
            DUE.is("sign(" + v + ")", x.sign(v), Due.STATE);
            DUE.is("shift(" + v + ")", x.shift(v), Due.STATE);
        }
        DUE.is("undo()", x.undo(), Due.STATE);
        Due.tell(x, "k7;c");
        DUE.is("behind a FAULT", x.sign(15), Due.STATE);
    }

    private static void latestFirst() {
        DUE.says("each can be undone, the latest first: how many can be undone yet. STATE: none.");
        SpelledTones x = DUE.of("k7;c0,4;r2;");
        x.shift(5);
        x.key(0, 6);
        x.become(1, 4);
        x.sign(4);
        x.shift(-3);
        DUE.is("the shift", x.undo(), 4);
        DUE.is("SIGNATURE", x.count(3), 4);
        DUE.is("KEY", x.note(0, 0), 6);
        DUE.is("the signature", x.undo(), 3);
        DUE.is("SIGNATURE", x.count(3), 12);
        DUE.is("the kind", x.undo(), 2);
        DUE.is("KIND", x.kind(1), 2);
        DUE.is("the key", x.undo(), 1);
        DUE.is("KEY", x.note(0, 0), 11);
        DUE.is("the first shift", x.undo(), 0);
        DUE.is("SIGNATURE", x.count(3), 7);
        DUE.is("KEYS", x.note(0, 0) * 100 + x.note(1, 0) * 10 + x.note(2, 0), 42);
        DUE.is("none", x.undo(), Due.STATE);
        DUE.is("none, again", x.undo(), Due.STATE);
    }

    private static void sixteenAtMost() {
        DUE.says("ACTS (16 at most are kept, of more the oldest is forgotten)");
        for (int acts = 0; acts <= 34; acts++) {
            SpelledTones x = DUE.of("k0;c0;");
            for (int i = 1; i <= acts; i++) {
                x.key(0, i % 12);
                DUE.is("kept of " + i, x.count(4), Math.min(i, 16));
            }
            int kept = Math.min(acts, 16);
            for (int i = 1; i <= kept; i++) {
                DUE.is("undo() of " + acts, x.undo(), kept - i);
                DUE.is("the key behind it", x.note(0, 0), (acts - i) % 12);
            }
            DUE.is("undo() of none, " + acts, x.undo(), Due.STATE);
            DUE.is("the key that stays of " + acts, x.note(0, 0), (acts - kept) % 12);
        }
    }

    /** An act of each sort, then sixteen more: it stays. With fifteen more it is undone. */
    private static void oldestOfEachSort() {
        DUE.says("of more the oldest is forgotten");
        for (int sort = 0; sort < 4; sort++) {
            for (int more = 14; more <= 17; more++) {
                SpelledTones x = DUE.of("k7;c0;c3;");
                switch (sort) {
                    case 0: x.key(0, 8); break;
                    case 1: x.become(0, 5); break;
                    case 2: x.sign(2); break;
                    default: x.shift(-4); break;
                }
                int act = x.note(0, 0) * 1000 + x.kind(0) * 100 + x.count(3);
                for (int i = 0; i < more; i++) {
                    x.become(1, 2 + i % 2);
                }
                while (x.count(4) > 0) {
                    x.undo();
                }
                int stays = x.note(0, 0) * 1000 + x.kind(0) * 100 + x.count(3);
                DUE.is("sort " + sort + " behind " + more, stays, more < 16 ? 107 : act);
                DUE.is("the kind of the other", x.kind(1), more < 17 ? 1 : 2);
            }
        }
    }

    /** Acts of all sorts on all notes and chords: behind each undo() all is as it was. */
    private static void anyOrderOfSorts() {
        DUE.says("ACTS (16 at most are kept ..; each can be undone, the latest first)");
        for (int acts = 15; acts <= 37; acts++) {
            SpelledTones x = DUE.of("k7;c0,1;r4,5,6;l2,9;");
            int[][] pictures = new int[acts + 1][];
            for (int i = 0; i < acts; i++) {
                pictures[i] = keysAndKinds(x);
                switch (i * 7 % 11 % 4) {
                    case 0: x.key(i % 7, (x.note(i % 7, 0) + 1 + i % 11) % 12); break;
                    case 1: x.become(i % 3, x.kind(i % 3) % 5 + 1); break;
                    case 2: x.sign((x.count(3) + 4) % 15); break;
                    default: x.shift(x.count(3) > 7 ? -5 : 6); break;
                }
                DUE.is("act " + i + " of " + acts, x.count(4), Math.min(i + 1, 16));
            }
            for (int i = 1; i <= Math.min(acts, 16); i++) {
                x.undo();
                int[] now = keysAndKinds(x);
                for (int n = 0; n < now.length; n++) {
                    DUE.is("number " + n + " behind undo " + i + " of " + acts, now[n], pictures[acts - i][n]);
                }
            }
            DUE.is("no more of " + acts, x.undo(), Due.STATE);
        }
    }

    private static int[] keysAndKinds(SpelledTones x) {
        int[] seen = new int[11];
        for (int note = 0; note < 7; note++) {
            seen[note] = x.note(note, 0);
        }
        for (int chord = 0; chord < 3; chord++) {
            seen[7 + chord] = x.kind(chord);
        }
        seen[10] = x.count(3);
        return seen;
    }

    private static void actsBehindUndo() {
        DUE.says("each can be undone, the latest first");
        SpelledTones x = DUE.of("k7;c0;");
        for (int i = 1; i <= 17; i++) {
            x.key(0, i % 12);
        }
        DUE.is("undo()", x.undo(), 15);
        DUE.is("undo()", x.undo(), 14);
        DUE.is("an act of another sort", x.sign(0), 7);
        DUE.is("kept", x.count(4), 15);
        DUE.is("its undo", x.undo(), 14);
        DUE.is("SIGNATURE", x.count(3), 7);
        DUE.is("the one before", x.undo(), 13);
        DUE.is("KEY", x.note(0, 0), 14 % 12);
    }

    private static void refusedActs() {
        DUE.says("What is refused changes nothing: no ACT is kept of it");
        SpelledTones x = DUE.of("k7;c0;");
        x.key(0, 5);
        x.key(0, 5);
        x.key(0, 12);
        x.key(1, 0);
        x.become(0, 1);
        x.become(0, 6);
        x.become(1, 2);
        x.sign(7);
        x.sign(15);
        x.shift(0);
        x.shift(7);
        DUE.is("acts", x.count(4), 1);
        x.sign(14);
        x.shift(1);
        DUE.is("acts", x.count(4), 2);
        DUE.is("undo()", x.undo(), 1);
        DUE.is("SIGNATURE", x.count(3), 7);
        DUE.is("undo()", x.undo(), 0);
        DUE.is("KEY", x.note(0, 0), 0);
    }

    /** What is told of a piece is told anew behind each call that changes it. */
    private static void bestFollowsActs() {
        DUE.says("NAMES by BEST, of the PIECE as it is now");
        SpelledTones x = DUE.of("k7;c6;");
        x.image(0);
        sees(x, "told", -6, 2, 1);
        x.become(0, 2);
        sees(x, "rising", 6, 1, 1);
        x.sign(8);
        sees(x, "by a sharp", 6, 0, 0);
        x.undo();
        sees(x, "undone", 6, 1, 1);
        x.undo();
        sees(x, "undone, both", -6, 2, 1);
        x.key(0, 0);
        sees(x, "c", 0, 0, 0);
        x.shift(3);
        sees(x, "a by three sharps", 3, 0, 0);
        x.restore(0);
        sees(x, "restored", -6, 2, 1);
        Due.tell(x, "k7;c2;");
        sees(x, "another", 2, 0, 0);
        Due.tell(x, "k7;c6;x");
        sees(x, "behind a FAULT", 2, 0, 0);
    }

    private static void sees(SpelledTones x, String what, int name, int cost, int signs) {
        DUE.is("NAME, " + what, x.note(0, 2), name);
        DUE.is("COST, " + what, x.whole(0), cost);
        DUE.is("PRINTED, " + what, x.whole(2), signs);
        DUE.is("COST by HEADS, " + what, x.whole(4), 0);
        SpelledTones y = DUE.of("k" + x.count(3) + ";" + "_crlho".charAt(x.kind(0)) + x.note(0, 0) + ";");
        for (int i = 0; i < 7; i++) {
            DUE.is("whole(" + i + "), " + what, x.whole(i), y.whole(i));
        }
    }

    private static void noActCanBeUndone() {
        DUE.says("no ACT can be undone (behind piece(), restore())");
        SpelledTones x = DUE.of("k7;c0;");
        x.key(0, 5);
        DUE.is("image(0)", x.image(0), 1);
        DUE.is("an image leaves the ACTS", x.count(4), 1);
        x.sign(3);
        DUE.is("restore(0)", x.restore(0), 1);
        DUE.is("acts", x.count(4), 0);
        DUE.is("undo()", x.undo(), Due.STATE);
        DUE.is("KEY", x.note(0, 0), 5);
        x.key(0, 6);
        DUE.is("piece()", Due.tell(x, "k7;c1;"), 1);
        DUE.is("acts", x.count(4), 0);
        DUE.is("undo()", x.undo(), Due.STATE);
        DUE.is("KEY", x.note(0, 0), 1);
        x.key(0, 2);
        x.restore(1);
        x.restore(2);
        Due.tell(x, "k7;c1");
        DUE.is("what is refused, or has a FAULT, leaves the ACTS", x.count(4), 1);
    }

    private static void images() {
        DUE.says("The PIECE is as an IMAGE kept it: 1");
        SpelledTones x = DUE.of("k9;c2,6,9;r1,7;b;h4,10;f;l0,3,8;b;f;o1,6;");
        x.key(0, 5);
        x.become(1, 5);
        x.sign(3);
        int[] before = picture(x);
        DUE.is("image(1)", x.image(1), 1);
        x.shift(4);
        x.key(11, 4);
        Due.tell(x, "k0;" + "c0,1,2,3;".repeat(10));
        DUE.is("restore(1)", x.restore(1), 1);
        int[] behind = picture(x);
        for (int i = 0; i < before.length; i++) {
            DUE.is("answer " + i, behind[i], before[i]);
        }
        DUE.is("note 12", x.note(12, 0), Due.BAD);
        DUE.is("chord 5", x.chord(5, 0), Due.BAD);
    }

    private static int[] picture(SpelledTones x) {
        int[] seen = new int[130];
        int n = 0;
        for (int what = 0; what < 6; what++) {
            for (int note = 0; note < 12; note++) {
                seen[n++] = x.note(note, what);
            }
            for (int chord = 0; chord < 5; chord++) {
                seen[n++] = x.chord(chord, what);
            }
        }
        for (int chord = 0; chord < 5; chord++) {
            seen[n++] = x.kind(chord);
        }
        for (int what = 0; what < 7; what++) {
            seen[n++] = x.whole(what);
        }
        for (int what = 1; what < 4; what++) {
            seen[n++] = x.count(what);
        }
        return seen;
    }

    private static void imagesOfTheirOwn() {
        DUE.says("An IMAGE (0, 1) is kept of the PIECE: 1");
        SpelledTones x = DUE.of("k1;c1;");
        x.image(0);
        Due.tell(x, "k2;r2;r2;");
        x.image(1);
        DUE.is("0", x.restore(0) * 100 + x.count(1) * 10 + x.note(0, 0), 111);
        x.key(0, 9);
        x.become(0, 4);
        x.sign(14);
        DUE.is("0 is as it was", x.restore(0) * 100 + x.count(3) * 10 + x.note(0, 0), 111);
        DUE.is("its kind, too", x.kind(0), 1);
        DUE.is("1", x.restore(1) * 100 + x.count(1) * 10 + x.note(1, 0), 122);
        x.key(1, 3);
        DUE.is("1 anew", x.image(1), 1);
        x.restore(0);
        DUE.is("1 as it is now", x.restore(1) * 100 + x.count(1) * 10 + x.note(1, 0), 123);
        DUE.is("image of what was restored", x.image(0), 1);
        DUE.is("0 is like 1", x.restore(0) * 100 + x.count(1) * 10 + x.note(1, 0), 123);
    }

    private static void refusalsOfImages() {
        DUE.says("image: BAD; STATE: no PIECE. restore: BAD; STATE: none was kept.");
        SpelledTones x = new SpelledTones();
        for (int k : new int[] {-1, 2, Due.LEAST, Due.MOST}) {
            DUE.is("image(" + k + ") without a piece", x.image(k), Due.BAD);
            DUE.is("restore(" + k + ") without one", x.restore(k), Due.BAD);
        }
        for (int k = 0; k < 2; k++) {
            DUE.is("image(" + k + ") without a piece", x.image(k), Due.STATE);
            DUE.is("restore(" + k + ") of none", x.restore(k), Due.STATE);
        }
        Due.tell(x, "k7;c0;");
        DUE.is("restore(0) of none", x.restore(0), Due.STATE);
        x.image(1);
        DUE.is("restore(0), 1 was kept", x.restore(0), Due.STATE);
        DUE.is("restore(1)", x.restore(1), 1);
        for (int k : new int[] {-1, 2, Due.LEAST, Due.MOST}) {
            DUE.is("image(" + k + ")", x.image(k), Due.BAD);
            DUE.is("restore(" + k + ")", x.restore(k), Due.BAD);
        }
    }
}
