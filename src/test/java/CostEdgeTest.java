import java.util.Arrays;

/** Each boundary that the document names of windows and costs: COST, BEST, WAYS, HEADS, PLAIN; promises 18, 19, 21. */
public final class CostEdgeTest {
    private static final int INTS = 2;
    private static final Due DUE = new Due();

    public static void main(String[] args) {
        howFarApart();
        halfOfThatCut();
        heldOnes();
        firstChordAny();
        noWindows();
        asManyItemsAsChords();
        refusalsOfCost();
        chordByChordTheLeast();
        bestOfHeldOnes();
        chordsBeyond();
        ways();
        manyWays();
        headsTheFirst();
        headsCost();
        headsCostAlone();
        plainTheLeast();
        wholeBeyond();
        DUE.end();
    }

    private static int costOf(SpelledTones x, int... windows) {
        Due.items(x, 0, INTS, windows);
        return x.cost(0, 0);
    }

    private static void howFarApart() {
        DUE.says("PRICE from a CHORD to the next: how far their WINDOWS are apart");
        SpelledTones x = DUE.of("k7;c2;c2;");
        for (int far = 0; far <= 23; far++) {
            int up = x.price(0, -15) + x.price(1, far - 15);
            int down = x.price(0, 8) + x.price(1, 8 - far);
            DUE.is("up by " + far, costOf(x, -15, far - 15), up + far);
            DUE.is("down by " + far, costOf(x, 8, 8 - far), down + far);
        }
    }

    private static void halfOfThatCut() {
        DUE.says("half of that (cut), if a phrase begins with the next");
        SpelledTones x = DUE.of("k7;c2;f;c2;");
        for (int far = 0; far <= 23; far++) {
            int half = (far - far % 2) / 2;
            int up = x.price(0, -15) + x.price(1, far - 15);
            int down = x.price(0, 8) + x.price(1, 8 - far);
            DUE.is("up by " + far, costOf(x, -15, far - 15), up + half);
            DUE.is("down by " + far, costOf(x, 8, 8 - far), down + half);
        }
        SpelledTones y = DUE.of("k7;c2;f;c2;c2;");
        DUE.is("each by itself: 3 by 2, then 3", costOf(y, -9, -6, -3), 1 + 3);
        SpelledTones z = DUE.of("k7;c2;f;c2;f;c2;");
        DUE.is("each cut by itself: 3 by 2, 3 by 2", costOf(z, -9, -6, -3), 1 + 1);
        SpelledTones bar = DUE.of("k7;c2;b;c2;");
        DUE.is("a bar alone halves nothing", costOf(bar, -9, -4), 5);
    }

    private static void heldOnes() {
        DUE.says("NONE, if a held one has another WINDOW than the one ahead (a loose one, too)");
        for (String sort : new String[] {"h", "o"}) {
            SpelledTones x = DUE.of("k7;c2;" + sort + "2;c2;");
            DUE.is(sort + " stays", costOf(x, -5, -5, -5), 0);
            DUE.is(sort + " is moved up", costOf(x, -5, -4, -4), Due.NONE);
            DUE.is(sort + " is moved down", costOf(x, -5, -6, -6), Due.NONE);
            DUE.is("the one behind may be moved", costOf(x, -5, -5, -4), 1);
            x.become(1, 1);
            DUE.is("a plain one may", costOf(x, -5, -4, -4), 1);
            SpelledTones y = DUE.of("k7;c2;f;" + sort + "2;");
            DUE.is(sort + " with a phrase is moved by 1", costOf(y, -5, -4), Due.NONE);
            DUE.is(sort + " with a phrase stays", costOf(y, -5, -5), 0);
            SpelledTones z = DUE.of("k7;o2;" + sort + "2;" + sort + "2;");
            DUE.is("the last of three", costOf(z, 8, 8, 7), Due.NONE);
            DUE.is("all three", costOf(z, 8, 8, 8), 2 * z.price(1, 8));
        }
    }

    private static void firstChordAny() {
        DUE.says("has the WINDOW of the one ahead (the first CHORD: any)");
        SpelledTones h = DUE.of("k7;h2;");
        SpelledTones o = DUE.of("k7;o2;");
        for (int w = -15; w <= 8; w++) {
            DUE.is("a held one at first, " + w, costOf(h, w), h.price(0, w));
            DUE.is("a loose one at first, " + w, costOf(o, w), 0);
        }
        DUE.is("BEST of a held one at first", h.chord(0, 2), -9);
        DUE.is("WAYS of it", h.whole(1), 12);
    }

    private static void noWindows() {
        DUE.says("NONE: .. one is no WINDOW");
        SpelledTones x = DUE.of("k7;o2;c2;f;h2;");
        for (int v : new int[] {-16, 9, -17, 10, -1000, Due.LEAST, Due.MOST}) {
            DUE.is(v + " at first", costOf(x, v, -5, -5), Due.NONE);
            DUE.is(v + " between", costOf(x, -5, v, -5), Due.NONE);
            DUE.is(v + " at last", costOf(x, -5, -5, v), Due.NONE);
            DUE.is(v + " alone", costOf(x, v, v, v), Due.NONE);
            DUE.is("status()", x.status(), 0);
        }
        DUE.is("-15 is one", costOf(x, -15, -15, -15), 2 * x.price(1, -15));
        DUE.is("8 is one", costOf(x, 8, 8, 8), 2 * x.price(1, 8));
    }

    private static void asManyItemsAsChords() {
        DUE.says("as many ITEMS of a ROW from i on as there are CHORDS; PLACE");
        SpelledTones x = DUE.of("k7;c2;c2;c2;");
        Due.items(x, 0, INTS, -9, -8, -6, -3, 1);
        DUE.is("from 0", x.cost(0, 0), 3);
        DUE.is("from 1", x.cost(0, 1), 5);
        DUE.is("from 2", x.cost(0, 2), 7);
        for (int i : new int[] {3, 4, 5, 6, -1, -2, Due.LEAST, Due.MOST, Due.MOST - 2}) {
            DUE.is("from " + i, x.cost(0, i), Due.PLACE);
            DUE.is("status()", x.status(), 2);
        }
        x.row(1, 0, 2);
        DUE.is("one item too few", x.cost(1, 0), Due.PLACE);
        x.row(1, 0, 3);
        DUE.is("just as many", x.cost(1, 0), 0);
        x.row(1, 0, 0);
        DUE.is("no items", x.cost(1, 0), Due.PLACE);
        SpelledTones ten = DUE.of("k7;" + "c2;".repeat(10));
        ten.row(5, 1, 40);
        DUE.is("ten from 30", ten.cost(5, 30), 0);
        DUE.is("ten from 31", ten.cost(5, 31), Due.PLACE);
        Due.items(x, 2, INTS, 9, 9);
        DUE.is("PLACE, though one is no window", x.cost(2, 0), Due.PLACE);
    }

    private static void refusalsOfCost() {
        DUE.says("BAD: ROW; STATE: no PIECE (ahead of BAD); NULL; PLACE");
        SpelledTones x = new SpelledTones();
        x.row(0, 0, 5);
        for (int row : new int[] {0, 1, -1, 8}) {
            DUE.is("cost of row " + row + " without a piece", x.cost(row, 0), Due.STATE);
        }
        DUE.is("cost without a piece, no place", x.cost(0, 9), Due.STATE);
        Due.tell(x, "k7;c0;");
        DUE.is("row -1", x.cost(-1, 0), Due.BAD);
        DUE.is("row 8", x.cost(8, 99), Due.BAD);
        DUE.is("a missing row", x.cost(1, 0), Due.NULL);
        DUE.is("a missing row, no place", x.cost(1, -1), Due.NULL);
        DUE.is("no place", x.cost(0, 5), Due.PLACE);
    }

    private static void bestIs(String text, int... windows) {
        SpelledTones x = DUE.of(text);
        for (int chord = 0; chord < windows.length; chord++) {
            DUE.is("WINDOW of chord " + chord + " of " + text, x.chord(chord, 2), windows[chord]);
        }
        DUE.is("COST of them", costOf(x, windows), x.whole(0));
    }

    /** d costs nothing in windows -9 to 2; a step of 1 into a phrase costs nothing, too. */
    private static void chordByChordTheLeast() {
        DUE.says("BEST: those of least COST, of several the first (CHORD by CHORD the least)");
        bestIs("k7;c2;", -9);
        bestIs("k7;o2;", -15);
        bestIs("k7;o2;c2;", -9, -9);
        bestIs("k7;o2;f;c2;", -10, -9);
        bestIs("k7;o2;f;c2;f;c2;", -10, -9, -9);
        bestIs("k7;c2;f;o2;", -9, -9);
        bestIs("k7;c2;c2;", -9, -9);
        bestIs("k7;c7;f;c2;", -10, -9);
        bestIs("k7;c2;f;c7;", -9, -10);
        bestIs("k7;c7;c2;", -9, -9);
        bestIs("k7;c2;f;c7;f;c2;", -9, -10, -9);
        bestIs("k14;r1,2,7,9;", 8);
        bestIs("k0;l0,2,3,10;", -15);
    }

    private static void bestOfHeldOnes() {
        DUE.says("A held CHORD (a loose one, too) has the WINDOW of the one ahead");
        bestIs("k7;c2;h7;o0;", -9, -9, -9);
        bestIs("k7;c2;f;h2;f;o2;", -9, -9, -9);
        // g alone would have -10; the held one that has d keeps it from there.
        bestIs("k7;c7;h2;", -9, -9);
        bestIs("k7;h7;h2;", -9, -9);
        bestIs("k7;o7;h2;c7;", -9, -9, -9);
        bestIs("k7;o7;o2;c7;", -10, -10, -10);
    }

    private static void chordsBeyond() {
        DUE.says("Of a CHORD: 0 how many NOTES .. 5 a phrase begins with it (1, 0; of CHORD 0: 1). BAD.");
        SpelledTones x = DUE.of("k7;c2;r4,6;");
        // d costs nothing in -9 to 2, e with f sharp costs 1 in -5 to 4.
        int[][] due = {{1, 0, -5, 0, 1, 1}, {2, 1, -5, 1, 0, 0}};
        for (int chord = 0; chord < 2; chord++) {
            for (int what = 0; what < 6; what++) {
                DUE.is("chord(" + chord + ", " + what + ")", x.chord(chord, what), due[chord][what]);
            }
            DUE.is("chord(" + chord + ", -1)", x.chord(chord, -1), Due.BAD);
            DUE.is("chord(" + chord + ", 6)", x.chord(chord, 6), Due.BAD);
        }
        for (int what = -1; what <= 6; what++) {
            DUE.is("chord(-1, " + what + ")", x.chord(-1, what), Due.BAD);
            DUE.is("chord(2, " + what + ")", x.chord(2, what), Due.BAD);
            DUE.is("without a piece", new SpelledTones().chord(0, what), Due.BAD);
        }
        for (int v : Due.WILD) {
            DUE.is("chord(" + v + ", 0)", x.chord(v, 0), Due.BAD);
            DUE.is("chord(0, " + v + ")", x.chord(0, v), Due.BAD);
        }
    }

    /** Walks over so many windows, from each to itself or a neighbour. */
    private static int walks(int windows, int chords) {
        long[] ends = new long[windows];
        Arrays.fill(ends, 1);
        for (int i = 1; i < chords; i++) {
            long[] next = new long[windows];
            for (int w = 0; w < windows; w++) {
                next[w] = ends[w] + (w > 0 ? ends[w - 1] : 0) + (w + 1 < windows ? ends[w + 1] : 0);
            }
            ends = next;
        }
        return (int) Arrays.stream(ends).sum();
    }

    private static void ways() {
        DUE.says("WAYS: how many rows of WINDOWS have the least COST");
        DUE.is("a loose one", DUE.of("k7;o2;").whole(1), 24);
        DUE.is("ten loose ones", DUE.of("k7;" + "o2;".repeat(10)).whole(1), 24);
        DUE.is("d", DUE.of("k7;c2;").whole(1), 12);
        DUE.is("d twice: both stay", DUE.of("k7;c2;c2;").whole(1), 12);
        DUE.is("the only one", DUE.of("k14;r1,2,7,9;").whole(1), 1);
        for (int chords = 1; chords <= 10; chords++) {
            String text = "k7;c2;" + "f;c2;".repeat(chords - 1);
            DUE.is(chords + " phrases of d", DUE.of(text).whole(1), walks(12, chords));
        }
        // From -15 to 6 f sharp is as dear as g flat.
        DUE.is("ten phrases of f sharp", DUE.of("k7;c6;" + "f;c6;".repeat(9)).whole(1), walks(22, 10));
        // By six flats c, b sharp and d double flat are all as dear to a rising chord.
        DUE.is("ten phrases, any window", DUE.of("k1;r0;" + "f;r0;".repeat(9)).whole(1), walks(24, 10));
    }

    /** The most that a long search over pieces found; keys that are alike are made so by acts. */
    private static void manyWays() {
        DUE.says("WAYS (99999999, if there are more): fewer are told as they are");
        SpelledTones x = DUE.of("k8;l6;f;r1,3,5;f;c5,8,9,10;f;l0,1,8,10;f;l0,1,2,3;l0,1,7,8;r2,7;r1,3,5,11;f;r1,3,5;f;c2,3,4,11;");
        x.key(5, 10);
        x.key(6, 10);
        x.key(14, 1);
        x.key(15, 2);
        x.key(17, 0);
        DUE.is("more than a million", x.whole(1), 1398648);
        DUE.is("as many as are counted", x.whole(1), countedWays(x));
    }

    /** Counted forwards, by price() and chord() alone; no chord is held. */
    private static int countedWays(SpelledTones x) {
        int[] costs = prices(x, 0);
        long[] counts = new long[24];
        Arrays.fill(counts, 1);
        for (int chord = 1; chord < x.count(1); chord++) {
            int[] nextCosts = prices(x, chord);
            long[] nextCounts = new long[24];
            int part = x.chord(chord, 5) == 1 ? 2 : 1;
            for (int to = 0; to < 24; to++) {
                int least = Due.MOST;
                for (int from = 0; from < 24; from++) {
                    int sum = costs[from] + Math.abs(from - to) / part;
                    nextCounts[to] = sum < least ? 0 : nextCounts[to];
                    least = Math.min(least, sum);
                    nextCounts[to] += sum == least ? counts[from] : 0;
                }
                nextCosts[to] += least;
            }
            costs = nextCosts;
            counts = nextCounts;
        }
        int least = Arrays.stream(costs).min().getAsInt();
        long sum = 0;
        for (int w = 0; w < 24; w++) {
            sum += costs[w] == least ? counts[w] : 0;
        }
        return (int) sum;
    }

    private static int[] prices(SpelledTones x, int chord) {
        int[] prices = new int[24];
        for (int w = 0; w < 24; w++) {
            prices[w] = x.price(chord, w - 15);
        }
        return prices;
    }

    private static void headsTheFirst() {
        DUE.says("HEADS: the SIGNATURE by which the COST of BEST is least, of several the first; that COST");
        DUE.is("loose: all fifteen", DUE.of("k14;o2;").whole(3), 0);
        DUE.is("its COST", DUE.of("k14;o2;").whole(4), 0);
        DUE.is("d: the first by which it is without a sign", DUE.of("k14;c2;").whole(3), firstHead("c2;"));
        DUE.is("c e g: one flat", DUE.of("k0;c0,4,7;").whole(3), 6);
        DUE.is("f, g, a, b: no sign", DUE.of("k0;c5,7,9,11;").whole(3), 7);
        DUE.is("the last one alone", DUE.of("k0;r1,3,6,8;r6,8,10;r0,5;").whole(3), firstHead("r1,3,6,8;r6,8,10;r0,5;"));
    }

    private static void headsCost() {
        DUE.says("HEADS .. that COST (FORETOLD: nothing changes)");
        for (int signature = 0; signature <= 14; signature++) {
            SpelledTones x = DUE.of("k" + signature + ";c1,2,6;f;r0,3;l5,8;");
            int head = firstHead("c1,2,6;f;r0,3;l5,8;");
            DUE.is("SIGNATURE of HEADS, from " + signature, x.whole(3), head);
            DUE.is("COST by that, from " + signature, x.whole(4), DUE.of("k" + head + ";c1,2,6;f;r0,3;l5,8;").whole(0));
            DUE.is("SIGNATURE stays", x.count(3), signature);
            DUE.is("no ACT", x.count(4), 0);
        }
    }

    /** Asked for ahead of SIGNATURE of HEADS, and behind changes. */
    private static void headsCostAlone() {
        DUE.says("4 COST by that (by SIGNATURE of HEADS)");
        String[] texts = {"k7;c0,1;", "k7;c0,1,2,3;", "k0;c0,1,6,7;r2,3;f;l0,8;", "k7;c0,4,7;"};
        SpelledTones x = DUE.of("k7;c0;");
        for (String text : texts) {
            SpelledTones y = DUE.of(text);
            int least = y.whole(0);
            for (int v = 0; v <= 14; v++) {
                y.sign(v);
                least = Math.min(least, y.whole(0));
            }
            DUE.is("COST by HEADS of " + text, DUE.of(text).whole(4), least);
            Due.tell(x, text);
            DUE.is("behind another piece, of " + text, x.whole(4), least);
        }
        SpelledTones z = DUE.of("k7;c0,1,2,3;");
        int dear = z.whole(4);
        z.become(0, 5);
        DUE.is("behind an act", z.whole(4), 0);
        z.undo();
        DUE.is("behind undo()", z.whole(4), dear);
        DUE.holds("which is not 0", dear > 0);
    }

    /** Told by making each of them a piece. */
    private static int firstHead(String chords) {
        int head = 0;
        for (int v = 1; v <= 14; v++) {
            head = DUE.of("k" + v + ";" + chords).whole(0) < DUE.of("k" + head + ";" + chords).whole(0) ? v : head;
        }
        return head;
    }

    private static void plainTheLeast() {
        DUE.says("PLAIN: the least COST by one WINDOW alone for all CHORDS; which, of several the least");
        String[] texts = {"k7;o2;", "k7;c2;", "k7;c7;f;c2;", "k7;l1,3,6,8;f;r1,3,6,8;", "k14;r1,2,7,9;", "k0;l0,2,3,10;",
            "k14;c1,4,8,11;h0;c5;", "k3;c0,1,2,3;r0,1,2,3;"};
        for (String text : texts) {
            SpelledTones x = DUE.of(text);
            int least = Due.MOST;
            int which = 0;
            for (int w = 8; w >= -15; w--) {
                int[] windows = new int[x.count(1)];
                Arrays.fill(windows, w);
                int cost = costOf(x, windows);
                which = cost <= least ? w : which;
                least = Math.min(least, cost);
            }
            DUE.is("COST of PLAIN of " + text, x.whole(5), least);
            DUE.is("WINDOW of that of " + text, x.whole(6), which);
        }
        DUE.is("the lowest", DUE.of("k7;o2;").whole(6), -15);
        DUE.is("the highest", DUE.of("k14;r1,2,7,9;").whole(6), 8);
        DUE.is("dearer than BEST", DUE.of("k7;l1,3,6,8;f;r1,3,6,8;").whole(5), 12);
    }

    private static void wholeBeyond() {
        DUE.says("whole: BAD; STATE: no PIECE (ahead of BAD)");
        SpelledTones none = new SpelledTones();
        SpelledTones x = DUE.of("k7;c2;");
        for (int what = -1; what <= 7; what++) {
            DUE.is("whole(" + what + ") without a piece", none.whole(what), Due.STATE);
        }
        DUE.is("whole(-1)", x.whole(-1), Due.BAD);
        DUE.is("whole(7)", x.whole(7), Due.BAD);
        for (int v : Due.WILD) {
            DUE.is("whole(" + v + ")", x.whole(v), Due.BAD);
            DUE.is("whole(" + v + ") without a piece", none.whole(v), Due.STATE);
        }
    }
}
