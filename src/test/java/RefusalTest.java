import java.util.ArrayList;
import java.util.List;
import java.util.function.Supplier;
import java.util.function.ToIntFunction;

/**
 * What is refused, or found, changes nothing but status(); and of several refusals the first is answered: BAD, STATE,
 * FULL, then FINDINGS. Each call is made on one of two objects that were made alike; then all that can be seen of both
 * is held side by side.
 */
public final class RefusalTest {
    private static final int BYTES = 0, SHORTS = 1, INTS = 2;
    private static final int LOW = Due.LEAST, HIGH = Due.MOST;
    private static final Due DUE = new Due();

    public static void main(String[] args) {
        ofRows();
        ofTapeAndActs();
        ofWhatIsTold();
        ofNames();
        ofImagesAndAsks();
        withoutAPiece();
        whereAllIsFull();
        ofFaults();
        DUE.end();
    }

    // ---- objects made alike

    /** Rows 0 to 3 have items, 4 was dropped, the others were never made; three acts, one image, five bytes on the tape. */
    private static SpelledTones rich() {
        SpelledTones x = new SpelledTones();
        Due.tell(x, "k3;l1;c2;");
        x.image(0);
        Due.tell(x, "k9;c2,6;r1;b;h4;f;o0,3;");
        x.key(0, 3);
        x.become(1, 3);
        x.sign(8);
        Due.items(x, 0, BYTES, -3, 2, 5);
        Due.items(x, 1, SHORTS, 7, -9);
        x.row(2, INTS, 0);
        Due.items(x, 3, INTS, -15, 8, 0, 1);
        x.row(4, INTS, 4);
        x.drop(4);
        x.ask(0, 0);
        Due.tell(x, "k15;");
        for (char c : "k7;c0".toCharArray()) {
            x.feed(c);
        }
        x.as(0, 4);
        return x;
    }

    /** No piece; a row and some bytes. */
    private static SpelledTones bare() {
        SpelledTones x = new SpelledTones();
        Due.items(x, 0, BYTES, 1, 2);
        for (char c : "k7;c0".toCharArray()) {
            x.feed(c);
        }
        x.set(1, 0, 0);
        return x;
    }

    /** The tape, the acts and the rows are full; the signature is the highest. */
    private static SpelledTones full() {
        SpelledTones x = DUE.of("k14;o0;");
        for (int i = 1; i <= 16; i++) {
            x.key(0, i % 12);
        }
        for (int row = 0; row < 7; row++) {
            Due.items(x, row, row % 3, row, -row);
        }
        String text = "k7;" + "c0,1,2,3;b;f;".repeat(9) + "c0,1,2,10;";
        for (int i = 0; i < 130; i++) {
            x.feed(text.charAt(i));
        }
        x.image(1);
        x.copy(0, 0, 1, 0, 1);
        return x;
    }

    // ---- all that can be seen of an object; nothing of it is left as it was

    private static List<Integer> allOf(SpelledTones x) {
        List<Integer> seen = new ArrayList<>();
        seen.add(x.fault());
        for (int i = 0; i < 7; i++) {
            seen.add(x.trace(i));
            seen.add(x.count(i));
        }
        seePiece(x, seen);
        for (int i = 0; i < 17; i++) {
            int left = x.undo();
            seen.add(left);
            if (left == Due.STATE) {
                break;
            }
            seePiece(x, seen);
        }
        for (int k = 0; k < 2; k++) {
            seen.add(x.restore(k));
            seePiece(x, seen);
        }
        seen.add(x.feed(';'));
        seen.add(x.piece());
        seePiece(x, seen);
        seeRows(x, seen);
        return seen;
    }

    private static void seePiece(SpelledTones x, List<Integer> seen) {
        seen.add(x.count(3));
        for (int note = 0; note < x.count(2); note++) {
            seen.add(x.note(note, 0));
        }
        for (int chord = 0; chord < x.count(1); chord++) {
            seen.add(x.kind(chord));
            seen.add(x.chord(chord, 0));
            seen.add(x.chord(chord, 2) + 100 * x.chord(chord, 4) + 1000 * x.chord(chord, 5));
        }
        seen.add(x.whole(0));
    }

    /** Row 7 is only told to be there or not: it is used to read the others. */
    private static void seeRows(SpelledTones x, List<Integer> seen) {
        Due.tell(x, Due.READER);
        seen.add(x.drop(7));
        for (int row = 0; row < 7; row++) {
            for (int lane = BYTES; lane <= INTS; lane++) {
                x.row(7, lane, 2);
                x.set(7, 1, -15);
                for (int i = 0; i < 5 && x.copy(row, i, 7, 0, 1) == 1; i++) {
                    seen.add(x.cost(7, 0));
                }
            }
            seen.add(x.drop(row));
        }
    }

    // ---- one refused call

    private static Supplier<SpelledTones> made = RefusalTest::rich;

    private static void refused(String name, int due, ToIntFunction<SpelledTones> call) {
        SpelledTones x = made.get();
        SpelledTones y = made.get();
        DUE.is(name, call.applyAsInt(x), due);
        int found = due <= Due.NULL && due >= Due.STORE ? -1000010 - due : y.status();
        DUE.is("status() behind " + name, x.status(), found);
        sideBySide(name, x, y);
    }

    private static void sideBySide(String name, SpelledTones x, SpelledTones y) {
        List<Integer> one = allOf(x);
        List<Integer> other = allOf(y);
        DUE.is("what is seen behind " + name, one.size(), other.size());
        for (int i = 0; i < Math.min(one.size(), other.size()); i++) {
            DUE.is("number " + i + " behind " + name, one.get(i), other.get(i));
        }
    }

    private static void ofRows() {
        made = RefusalTest::rich;
        DUE.says("row: BAD: ROW, LANE, n above 40; SIZE");
        int[][] bad = {{-1, 0, 1}, {8, 0, 1}, {LOW, 0, 1}, {HIGH, 0, 1}, {0, -1, 1}, {0, 3, 1}, {0, 0, 41}, {5, 0, 41},
            {0, 2, HIGH}, {0, 3, -1}, {8, 0, -1}, {-1, 3, 41}};
        for (int[] a : bad) {
            refused("row(" + a[0] + ", " + a[1] + ", " + a[2] + ")", Due.BAD, x -> x.row(a[0], a[1], a[2]));
        }
        refused("row(0, 0, -1)", Due.SIZE, x -> x.row(0, 0, -1));
        refused("row(0, 2, least)", Due.SIZE, x -> x.row(0, 2, LOW));
        refused("row(5, 1, -1)", Due.SIZE, x -> x.row(5, 1, -1));
        DUE.says("set: BAD: ROW; NULL; PLACE");
        int[][] sets = {{-1, 0, Due.BAD}, {8, 0, Due.BAD}, {8, -1, Due.BAD}, {4, 0, Due.NULL}, {4, -1, Due.NULL},
            {6, 99, Due.NULL}, {0, -1, Due.PLACE}, {0, 3, Due.PLACE}, {2, 0, Due.PLACE}, {3, LOW, Due.PLACE}, {3, HIGH, Due.PLACE}};
        for (int[] a : sets) {
            refused("set(" + a[0] + ", " + a[1] + ", 6)", a[2], x -> x.set(a[0], a[1], 6));
        }
        DUE.says("drop: BAD; NULL");
        refused("drop(-1)", Due.BAD, x -> x.drop(-1));
        refused("drop(8)", Due.BAD, x -> x.drop(8));
        refused("drop(4)", Due.NULL, x -> x.drop(4));
        refused("drop(7)", Due.NULL, x -> x.drop(7));
        ofCopies();
    }

    private static void ofCopies() {
        DUE.says("copy: BAD: ROWS; NULL; STORE; PLACE (i, j, n below 0, or beyond an end)");
        int[][] copies = {{-1, 0, 0, 0, 1, Due.BAD}, {0, 0, 8, 0, 1, Due.BAD}, {8, 0, 4, 0, 1, Due.BAD}, {4, 0, -1, 0, 1, Due.BAD},
            {8, -1, 1, 0, 1, Due.BAD}, {4, 0, 0, 0, 1, Due.NULL}, {0, 0, 4, 0, 1, Due.NULL}, {4, 0, 5, 0, 1, Due.NULL},
            {3, -1, 4, 0, 1, Due.NULL}, {0, 0, 1, 0, 1, Due.STORE}, {1, 0, 3, 0, 2, Due.STORE}, {0, 0, 1, 0, 0, Due.STORE},
            {0, -1, 1, 0, 1, Due.STORE}, {0, 0, 1, 0, 99, Due.STORE}, {0, -1, 0, 0, 1, Due.PLACE}, {0, 0, 0, -1, 1, Due.PLACE},
            {0, 0, 0, 1, -1, Due.PLACE}, {0, 1, 0, 0, 3, Due.PLACE}, {0, 0, 0, 1, 3, Due.PLACE}, {3, 0, 2, 0, 1, Due.PLACE},
            {3, 0, 3, 1, 4, Due.PLACE}, {3, 1, 3, 0, HIGH, Due.PLACE}, {3, HIGH, 3, 0, HIGH, Due.PLACE},
            {3, 0, 3, HIGH, 1, Due.PLACE}, {3, 5, 3, 0, 0, Due.PLACE}, {3, 0, 3, 5, 0, Due.PLACE}, {3, LOW, 3, 0, LOW, Due.PLACE}};
        for (int[] a : copies) {
            String name = "copy(" + a[0] + ", " + a[1] + ", " + a[2] + ", " + a[3] + ", " + a[4] + ")";
            refused(name, a[5], x -> x.copy(a[0], a[1], a[2], a[3], a[4]));
        }
    }

    private static void ofTapeAndActs() {
        made = RefusalTest::rich;
        DUE.says("feed: A byte (0 to 255). BAD");
        for (int letter : new int[] {-1, 256, LOW, HIGH}) {
            refused("feed(" + letter + ")", Due.BAD, x -> x.feed(letter));
        }
        DUE.says("key: BAD; STATE: it is that");
        int[][] keys = {{-1, 0, Due.BAD}, {6, 0, Due.BAD}, {LOW, 3, Due.BAD}, {HIGH, 3, Due.BAD}, {0, -1, Due.BAD},
            {0, 12, Due.BAD}, {6, 12, Due.BAD}, {0, 3, Due.STATE}, {5, 3, Due.STATE}};
        for (int[] a : keys) {
            refused("key(" + a[0] + ", " + a[1] + ")", a[2], x -> x.key(a[0], a[1]));
        }
        DUE.says("become: BAD; STATE: it is that");
        int[][] kinds = {{-1, 1, Due.BAD}, {4, 1, Due.BAD}, {0, 0, Due.BAD}, {0, 6, Due.BAD}, {LOW, HIGH, Due.BAD},
            {0, 1, Due.STATE}, {1, 3, Due.STATE}, {3, 5, Due.STATE}};
        for (int[] a : kinds) {
            refused("become(" + a[0] + ", " + a[1] + ")", a[2], x -> x.become(a[0], a[1]));
        }
        DUE.says("sign: BAD; STATE: it is that");
        int[][] signs = {{-1, Due.BAD}, {15, Due.BAD}, {LOW, Due.BAD}, {HIGH, Due.BAD}, {8, Due.STATE}};
        for (int[] a : signs) {
            refused("sign(" + a[0] + ")", a[1], x -> x.sign(a[0]));
        }
        DUE.says("shift: BAD; STATE: t is 0, SIGNATURE would be beyond 0 to 14");
        int[][] shifts = {{-7, Due.BAD}, {7, Due.BAD}, {-9, Due.BAD}, {LOW, Due.BAD}, {HIGH, Due.BAD}, {0, Due.STATE}};
        for (int[] a : shifts) {
            refused("shift(" + a[0] + ")", a[1], x -> x.shift(a[0]));
        }
    }

    private static void ofWhatIsTold() {
        made = RefusalTest::rich;
        DUE.says("place, inWindow, head: BAD");
        int[][] pairs = {{-16, 0}, {20, 0}, {0, -1}, {0, 3}, {LOW, LOW}};
        for (int[] a : pairs) {
            refused("place(" + a[0] + ", " + a[1] + ")", Due.BAD, x -> x.place(a[0], a[1]));
        }
        int[][] windows = {{-16, 0}, {9, 0}, {0, -1}, {0, 12}, {HIGH, HIGH}};
        for (int[] a : windows) {
            refused("inWindow(" + a[0] + ", " + a[1] + ")", Due.BAD, x -> x.inWindow(a[0], a[1]));
        }
        refused("head(-1)", Due.BAD, x -> x.head(-1));
        refused("head(7)", Due.BAD, x -> x.head(7));
        DUE.says("kind, count: BAD; trace: NONE");
        for (int v : new int[] {-1, 4, LOW, HIGH}) {
            refused("kind(" + v + ")", Due.BAD, x -> x.kind(v));
        }
        refused("count(-1)", Due.BAD, x -> x.count(-1));
        refused("count(6)", Due.BAD, x -> x.count(6));
        refused("trace(-1)", Due.NONE, x -> x.trace(-1));
        refused("trace(99)", Due.NONE, x -> x.trace(99));
    }

    private static void ofNames() {
        made = RefusalTest::rich;
        DUE.says("note, chord, whole, price: BAD");
        int[][] notes = {{-1, 0}, {6, 0}, {0, -1}, {0, 6}, {LOW, 0}, {0, HIGH}};
        for (int[] a : notes) {
            refused("note(" + a[0] + ", " + a[1] + ")", Due.BAD, x -> x.note(a[0], a[1]));
        }
        int[][] chords = {{-1, 0}, {4, 0}, {0, -1}, {0, 6}, {LOW, 0}, {0, HIGH}};
        for (int[] a : chords) {
            refused("chord(" + a[0] + ", " + a[1] + ")", Due.BAD, x -> x.chord(a[0], a[1]));
        }
        refused("whole(-1)", Due.BAD, x -> x.whole(-1));
        refused("whole(7)", Due.BAD, x -> x.whole(7));
        int[][] prices = {{-1, 0}, {4, 0}, {0, -16}, {0, 9}, {HIGH, LOW}};
        for (int[] a : prices) {
            refused("price(" + a[0] + ", " + a[1] + ")", Due.BAD, x -> x.price(a[0], a[1]));
        }
        DUE.says("cost: BAD: ROW; NULL; PLACE");
        int[][] costs = {{-1, 0, Due.BAD}, {8, 0, Due.BAD}, {8, -1, Due.BAD}, {4, 0, Due.NULL}, {4, -1, Due.NULL},
            {3, 1, Due.PLACE}, {3, -1, Due.PLACE}, {0, 0, Due.PLACE}, {3, LOW, Due.PLACE}, {3, HIGH, Due.PLACE}};
        for (int[] a : costs) {
            refused("cost(" + a[0] + ", " + a[1] + ")", a[2], x -> x.cost(a[0], a[1]));
        }
        DUE.says("fits: BAD: CHORD (always), ROW, n 1 on, what; NULL; PLACE");
        int[][] fits = {{-1, 0, 1, 0, Due.BAD}, {4, 0, 1, 0, Due.BAD}, {0, -1, 1, 0, Due.BAD}, {0, 8, 1, 0, Due.BAD},
            {0, 0, 0, 0, Due.BAD}, {0, 0, -1, 0, Due.BAD}, {0, 0, 7, 0, Due.BAD}, {0, 0, 1, -1, Due.BAD}, {0, 0, 1, 3, Due.BAD},
            {0, 4, 0, 0, Due.BAD}, {0, 4, 1, 3, Due.BAD}, {0, 4, 1, 0, Due.NULL}, {0, 4, 6, 1, Due.NULL}, {0, 0, 4, 0, Due.PLACE},
            {3, 2, 1, 1, Due.PLACE}, {0, 3, 5, 2, Due.PLACE}};
        for (int[] a : fits) {
            String name = "fits(" + a[0] + ", " + a[1] + ", " + a[2] + ", " + a[3] + ")";
            refused(name, a[4], x -> x.fits(a[0], a[1], a[2], a[3]));
        }
        DUE.says("drawn: BAD");
        int[][] draws = {{-1, 1, 0}, {21, 1, 0}, {1, 0, 0}, {1, 1000000, 0}, {1, 1, -1}, {1, 1, 2}};
        for (int[] a : draws) {
            refused("drawn(" + a[0] + ", " + a[1] + ", " + a[2] + ")", Due.BAD, x -> x.drawn(a[0], a[1], a[2]));
        }
    }

    private static void ofImagesAndAsks() {
        made = RefusalTest::rich;
        DUE.says("image: BAD. restore: BAD; STATE: none was kept");
        for (int k : new int[] {-1, 2, LOW, HIGH}) {
            refused("image(" + k + ")", Due.BAD, x -> x.image(k));
            refused("restore(" + k + ")", Due.BAD, x -> x.restore(k));
        }
        refused("restore(1)", Due.STATE, x -> x.restore(1));
        DUE.says("as: BAD; KIND: it is no such one");
        int[][] taken = {{-1, 0, Due.BAD}, {4, 0, Due.BAD}, {0, -1, Due.BAD}, {0, 6, Due.BAD}, {0, 2, Due.KIND},
            {0, 3, Due.KIND}, {1, 2, Due.KIND}, {2, 1, Due.KIND}, {2, 5, Due.KIND}, {3, 1, Due.KIND}};
        for (int[] a : taken) {
            refused("as(" + a[0] + ", " + a[1] + ")", a[2], x -> x.as(a[0], a[1]));
        }
        DUE.says("ask: BAD");
        int[][] asks = {{-1, 0}, {4, 0}, {0, -1}, {0, 2}, {LOW, HIGH}};
        for (int[] a : asks) {
            refused("ask(" + a[0] + ", " + a[1] + ")", Due.BAD, x -> x.ask(a[0], a[1]));
        }
    }

    private static void withoutAPiece() {
        made = RefusalTest::bare;
        DUE.says("BAD (there is no such thing)");
        refused("key(0, 0)", Due.BAD, x -> x.key(0, 0));
        refused("become(0, 1)", Due.BAD, x -> x.become(0, 1));
        refused("head(0)", Due.BAD, x -> x.head(0));
        refused("note(0, 0)", Due.BAD, x -> x.note(0, 0));
        refused("chord(0, 0)", Due.BAD, x -> x.chord(0, 0));
        refused("price(0, 0)", Due.BAD, x -> x.price(0, 0));
        refused("fits(0, 0, 1, 0)", Due.BAD, x -> x.fits(0, 0, 1, 0));
        refused("kind(0)", Due.BAD, x -> x.kind(0));
        refused("as(0, 0)", Due.BAD, x -> x.as(0, 0));
        refused("ask(0, 0)", Due.BAD, x -> x.ask(0, 0));
        refused("image(2)", Due.BAD, x -> x.image(2));
        refused("restore(2)", Due.BAD, x -> x.restore(2));
        DUE.says("STATE: no PIECE (ahead of BAD)");
        for (int v : new int[] {-7, 0, 1, 15}) {
            refused("sign(" + v + ")", Due.STATE, x -> x.sign(v));
            refused("shift(" + v + ")", Due.STATE, x -> x.shift(v));
            refused("whole(" + v + ")", Due.STATE, x -> x.whole(v));
            refused("cost(" + v + ", 0)", Due.STATE, x -> x.cost(v, 0));
            refused("drawn(" + v + ", 1, 0)", Due.STATE, x -> x.drawn(v, 1, 0));
        }
        DUE.says("STATE: none; no PIECE; none was kept");
        refused("undo()", Due.STATE, x -> x.undo());
        refused("image(0)", Due.STATE, x -> x.image(0));
        refused("restore(0)", Due.STATE, x -> x.restore(0));
    }

    private static void whereAllIsFull() {
        made = RefusalTest::full;
        DUE.says("feed: BAD; FULL");
        refused("feed(0)", Due.FULL, x -> x.feed(0));
        refused("feed(107)", Due.FULL, x -> x.feed(107));
        refused("feed(255)", Due.FULL, x -> x.feed(255));
        refused("feed(256)", Due.BAD, x -> x.feed(256));
        refused("feed(-1)", Due.BAD, x -> x.feed(-1));
        DUE.says("shift: BAD; STATE: SIGNATURE would be beyond 0 to 14");
        refused("shift(1)", Due.STATE, x -> x.shift(1));
        refused("shift(6)", Due.STATE, x -> x.shift(6));
        refused("shift(7)", Due.BAD, x -> x.shift(7));
        DUE.says("ACTS (16 at most are kept): what is refused is none");
        refused("key(0, 4)", Due.STATE, x -> x.key(0, 4));
        refused("become(0, 5)", Due.STATE, x -> x.become(0, 5));
        refused("sign(14)", Due.STATE, x -> x.sign(14));
        refused("row(8, 0, 1)", Due.BAD, x -> x.row(8, 0, 1));
    }

    /** A text with a fault leaves all but the tape and fault(). */
    private static void ofFaults() {
        DUE.says("-1000100 less the place of a FAULT: all stays");
        SpelledTones x = rich();
        SpelledTones y = rich();
        DUE.is("k7;c0, and no end", x.piece(), -1000105);
        DUE.is("fault()", x.fault(), 1);
        DUE.is("bytes", x.count(5), 0);
        DUE.is("status()", x.status(), y.status());
        for (char c : "k15;".toCharArray()) {
            x.feed(c);
        }
        x.piece();
        for (char c : "k7;c0".toCharArray()) {
            x.feed(c);
        }
        sideBySide("a FAULT", x, y);
    }
}
