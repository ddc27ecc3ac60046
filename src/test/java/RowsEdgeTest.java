/** Each boundary that the document names of rows: part 1 of the terms, promises 2 to 5. */
public final class RowsEdgeTest {
    private static final int BYTES = 0, SHORTS = 1, INTS = 2;
    private static final Due DUE = new Due();

    public static void main(String[] args) {
        missingAtFirst();
        eightRows();
        howManyItems();
        zeroAtFirst();
        inPlaceOfWhatIsThere();
        lowestBits();
        bitsThatStay();
        placesOfSet();
        copiesWithin();
        copiesBetween();
        placesOfCopy();
        lanesOfCopy();
        drops();
        DUE.end();
    }

    private static void missingAtFirst() {
        DUE.says("ROWS 0 .. 7 are missing (at first)");
        SpelledTones x = DUE.of("k7;c0;");
        for (int row = 0; row < 8; row++) {
            DUE.is("set of row " + row, x.set(row, 0, 0), Due.NULL);
            DUE.is("drop of row " + row, x.drop(row), Due.NULL);
            DUE.is("copy of row " + row, x.copy(row, 0, row, 0, 0), Due.NULL);
            DUE.is("cost of row " + row, x.cost(row, 0), Due.NULL);
            DUE.is("fits of row " + row, x.fits(0, row, 1, 0), Due.NULL);
        }
        DUE.is("count(0)", x.count(0), 0);
        for (int row : new int[] {-1, 8, Due.LEAST, Due.MOST}) {
            DUE.is("row " + row, x.row(row, 0, 1), Due.BAD);
            DUE.is("set of row " + row, x.set(row, 0, 0), Due.BAD);
            DUE.is("drop of row " + row, x.drop(row), Due.BAD);
            DUE.is("copy from row " + row, x.copy(row, 0, 0, 0, 0), Due.BAD);
            DUE.is("copy to row " + row, x.copy(0, 0, row, 0, 0), Due.BAD);
            DUE.is("cost of row " + row, x.cost(row, 0), Due.BAD);
            DUE.is("fits of row " + row, x.fits(0, row, 1, 0), Due.BAD);
        }
    }

    private static void eightRows() {
        DUE.says("ROWS 0 .. 7 .. have a LANE and 0 to 40 ITEMS");
        SpelledTones x = DUE.of(Due.READER);
        for (int row = 0; row < 8; row++) {
            DUE.is("row " + row, x.row(row, row % 3, 40), 40);
            DUE.is("count(0)", x.count(0), row + 1);
        }
        // The first two and the last two items of each row stand beside those of its neighbours.
        for (int row = 0; row < 8; row++) {
            x.set(row, 0, row);
            x.set(row, 1, -row);
            x.set(row, 38, -15 + row);
            x.set(row, 39, -7 - row);
        }
        for (int row = 0; row < 8; row++) {
            DUE.is("the first of row " + row, x.cost(row, 0), 2 * row + x.price(1, -row));
            DUE.is("the last of row " + row, x.cost(row, 38), Math.abs(2 * row - 8) + x.price(1, -7 - row));
            DUE.is("its middle", x.cost(row, 20), x.price(1, 0));
        }
    }

    private static void howManyItems() {
        DUE.says("0 to 40 ITEMS; BAD: ROW, LANE, n above 40; SIZE (fewer than none)");
        SpelledTones x = new SpelledTones();
        for (int lane = BYTES; lane <= INTS; lane++) {
            for (int n : new int[] {0, 1, 39, 40}) {
                DUE.is(n + " items of lane " + lane, x.row(0, lane, n), n);
                DUE.is("the last of " + n, x.set(0, n - 1, 1), n == 0 ? Due.PLACE : 1);
                DUE.is("one more than " + n, x.set(0, n, 1), Due.PLACE);
            }
            for (int n : new int[] {41, 42, 1000, Due.MOST}) {
                DUE.is(n + " items of lane " + lane, x.row(0, lane, n), Due.BAD);
            }
            for (int n : new int[] {-1, -2, -40, Due.LEAST}) {
                DUE.is(n + " items of lane " + lane, x.row(0, lane, n), Due.SIZE);
            }
        }
        for (int lane : new int[] {-1, 3, Due.LEAST, Due.MOST}) {
            DUE.is("lane " + lane, x.row(0, lane, 1), Due.BAD);
        }
        DUE.is("it has 40 yet", x.drop(0), 40);
    }

    private static void zeroAtFirst() {
        DUE.says("ITEMS, 0 at first");
        for (int lane = BYTES; lane <= INTS; lane++) {
            SpelledTones x = DUE.of(Due.READER);
            x.row(3, lane, 40);
            DUE.rowIs(x, "lane " + lane, 3, new int[40]);
        }
    }

    private static void inPlaceOfWhatIsThere() {
        DUE.says("A ROW of a LANE with n ITEMS, in place of what is there: n");
        for (int lane = BYTES; lane <= INTS; lane++) {
            SpelledTones x = DUE.of(Due.READER);
            Due.items(x, 1, lane, 3, 4, 5, 6);
            DUE.is("as long", x.row(1, lane, 4), 4);
            DUE.rowIs(x, "as long", 1, 0, 0, 0, 0);
            Due.items(x, 1, lane, 3, 4, 5, 6);
            DUE.is("shorter", x.row(1, lane, 2), 2);
            DUE.rowIs(x, "shorter", 1, 0, 0);
            DUE.is("longer again", x.row(1, lane, 5), 5);
            DUE.rowIs(x, "longer again", 1, 0, 0, 0, 0, 0);
            Due.items(x, 1, lane, 3, 4, 5, 6);
            x.drop(1);
            DUE.is("behind a drop", x.row(1, (lane + 1) % 3, 4), 4);
            DUE.rowIs(x, "behind a drop", 1, 0, 0, 0, 0);
            x.row(2, (lane + 1) % 3, 4);
            DUE.is("of another lane", x.copy(1, 0, 2, 0, 4), 4);
            DUE.is("so many rows", x.count(0), 2);
        }
    }

    private static void lowestBits() {
        DUE.says("ITEM i becomes v, its lowest bits, as many as the LANE has: what it is then");
        SpelledTones x = new SpelledTones();
        x.row(BYTES, BYTES, 1);
        x.row(SHORTS, SHORTS, 1);
        x.row(INTS, INTS, 1);
        int[][] bytes = {{0, 0}, {127, 127}, {128, -128}, {-128, -128}, {-129, 127}, {255, -1}, {256, 0}, {257, 1},
            {-256, 0}, {-257, -1}, {Due.MOST, -1}, {Due.LEAST, 0}, {0x12345680, -128}};
        int[][] shorts = {{0, 0}, {127, 127}, {128, 128}, {32767, 32767}, {32768, -32768}, {-32768, -32768},
            {-32769, 32767}, {65535, -1}, {65536, 0}, {65537, 1}, {Due.MOST, -1}, {Due.LEAST, 0}, {0x12348000, -32768}};
        int[] ints = {0, 128, 32768, 65536, -32769, Due.MOST, Due.LEAST};
        for (int[] v : bytes) {
            DUE.is("a byte, " + v[0], x.set(BYTES, 0, v[0]), v[1]);
        }
        for (int[] v : shorts) {
            DUE.is("a short, " + v[0], x.set(SHORTS, 0, v[0]), v[1]);
        }
        for (int v : ints) {
            DUE.is("an int, " + v, x.set(INTS, 0, v), v);
        }
    }

    private static void bitsThatStay() {
        DUE.says("ITEM i becomes v, its lowest bits");
        SpelledTones x = DUE.of(Due.READER);
        Due.items(x, 0, BYTES, 256 - 3, 256 + 5, 512 - 15);
        DUE.rowIs(x, "bytes", 0, -3, 5, -15);
        Due.items(x, 1, SHORTS, 65536 - 3, 65536 + 5, 131072 - 15);
        DUE.rowIs(x, "shorts", 1, -3, 5, -15);
        Due.items(x, 2, SHORTS, 256 - 3, 256 - 3);
        DUE.is("253 in a short is no window", x.cost(2, 0), Due.NONE);
        Due.items(x, 3, INTS, 65536 - 3, 65536 - 3);
        DUE.is("65533 in an int is no window", x.cost(3, 0), Due.NONE);
        Due.items(x, 4, BYTES, 1, 2, 3);
        x.set(4, 1, -9);
        DUE.rowIs(x, "the one that was set, no other", 4, 1, -9, 3);
    }

    private static void placesOfSet() {
        DUE.says("set: BAD: ROW; NULL; PLACE (no such place of a ROW)");
        SpelledTones x = new SpelledTones();
        x.row(0, BYTES, 0);
        x.row(1, SHORTS, 1);
        x.row(7, INTS, 40);
        DUE.is("no items, place 0", x.set(0, 0, 1), Due.PLACE);
        DUE.is("no items, place -1", x.set(0, -1, 1), Due.PLACE);
        DUE.is("one item, place 0", x.set(1, 0, 1), 1);
        DUE.is("one item, place 1", x.set(1, 1, 1), Due.PLACE);
        DUE.is("40 items, place 0", x.set(7, 0, 1), 1);
        DUE.is("40 items, place 39", x.set(7, 39, 1), 1);
        for (int i : new int[] {-1, 40, 41, Due.LEAST, Due.MOST}) {
            DUE.is("40 items, place " + i, x.set(7, i, 1), Due.PLACE);
            DUE.is("a missing row, place " + i, x.set(2, i, 1), Due.NULL);
            DUE.is("row 8, place " + i, x.set(8, i, 1), Due.BAD);
        }
    }

    private static void copiesWithin() {
        DUE.says("n ITEMS of a from i on come to b from j on, as they were ahead: n");
        for (int lane = BYTES; lane <= INTS; lane++) {
            SpelledTones x = DUE.of(Due.READER);
            Due.items(x, 0, lane, -15, -12, -7, 0, 8);
            DUE.is("one place on", x.copy(0, 0, 0, 1, 4), 4);
            DUE.rowIs(x, "one place on", 0, -15, -15, -12, -7, 0);
            Due.items(x, 0, lane, -15, -12, -7, 0, 8);
            DUE.is("two places back", x.copy(0, 2, 0, 0, 3), 3);
            DUE.rowIs(x, "two places back", 0, -7, 0, 8, 0, 8);
            DUE.is("all onto itself", x.copy(0, 0, 0, 0, 5), 5);
            DUE.is("none, at the end", x.copy(0, 5, 0, 5, 0), 0);
            DUE.rowIs(x, "as it was", 0, -7, 0, 8, 0, 8);
        }
    }

    private static void copiesBetween() {
        DUE.says("n ITEMS of a from i on come to b from j on");
        SpelledTones x = DUE.of(Due.READER);
        Due.items(x, 2, INTS, 1, 2, 3, 4);
        Due.items(x, 6, INTS, -1, -2, -4);
        DUE.is("two of them", x.copy(2, 1, 6, 1, 2), 2);
        DUE.rowIs(x, "b", 6, -1, 2, 3);
        DUE.rowIs(x, "a stays", 2, 1, 2, 3, 4);
        DUE.is("none", x.copy(2, 0, 6, 0, 0), 0);
        DUE.rowIs(x, "b stays", 6, -1, 2, 3);
        x.row(0, BYTES, 40);
        x.row(1, BYTES, 40);
        x.set(0, 0, 8);
        x.set(0, 39, -15);
        DUE.is("all 40", x.copy(0, 0, 1, 0, 40), 40);
        DUE.is("the first", x.cost(1, 0), 8 + x.price(1, 0));
        DUE.is("the last", x.cost(1, 38), 15 + x.price(1, -15));
        Due.items(x, 3, INTS, 256, 256);
        x.copy(3, 0, 2, 0, 2);
        DUE.is("an int keeps all its bits", x.cost(2, 0), Due.NONE);
    }

    private static void placesOfCopy() {
        DUE.says("PLACE (i, j, n below 0, or beyond an end)");
        SpelledTones x = new SpelledTones();
        x.row(0, INTS, 3);
        x.row(1, INTS, 2);
        x.row(2, INTS, 0);
        int[][] fine = {{0, 0, 2}, {1, 0, 2}, {2, 1, 1}, {3, 2, 0}, {0, 2, 0}, {3, 0, 0}};
        for (int[] c : fine) {
            DUE.is("from " + c[0] + " to " + c[1], x.copy(0, c[0], 1, c[1], c[2]), c[2]);
        }
        int[][] beyond = {{-1, 0, 1}, {0, -1, 1}, {0, 0, -1}, {-1, -1, -1}, {-1, 0, 0}, {0, -1, 0}, {2, 0, 2}, {0, 1, 2},
            {0, 0, 3}, {3, 0, 1}, {0, 2, 1}, {4, 0, 0}, {0, 3, 0}, {Due.MOST, 0, 0}, {0, Due.MOST, 0}, {0, 0, Due.MOST},
            {Due.LEAST, 0, 0}, {0, Due.LEAST, 0}, {0, 0, Due.LEAST}, {1, 1, Due.MOST}, {Due.MOST, Due.MOST, Due.MOST},
            {Due.LEAST, 0, Due.LEAST}, {Due.MOST, 0, 1}, {0, Due.MOST, 1}, {3, 2, -1}};
        for (int[] c : beyond) {
            DUE.is(c[2] + " from " + c[0] + " to " + c[1], x.copy(0, c[0], 1, c[1], c[2]), Due.PLACE);
        }
        DUE.is("none to a row without items", x.copy(0, 0, 2, 0, 0), 0);
        DUE.is("one to a row without items", x.copy(0, 0, 2, 0, 1), Due.PLACE);
        DUE.is("one from a row without items", x.copy(2, 0, 0, 0, 1), Due.PLACE);
    }

    private static void lanesOfCopy() {
        DUE.says("BAD: ROWS; NULL; STORE (ROWS of two LANES); PLACE");
        SpelledTones x = new SpelledTones();
        for (int row = 0; row < 6; row++) {
            x.row(row, row % 3, 2);
        }
        for (int a = 0; a < 6; a++) {
            for (int b = 0; b < 6; b++) {
                boolean one = a % 3 == b % 3;
                DUE.is("from " + a + " to " + b, x.copy(a, 0, b, 0, 1), one ? 1 : Due.STORE);
                DUE.is("none from " + a + " to " + b, x.copy(a, 0, b, 0, 0), one ? 0 : Due.STORE);
                DUE.is("from place -1", x.copy(a, -1, b, 0, 1), one ? Due.PLACE : Due.STORE);
                DUE.is("-1 of them", x.copy(a, 0, b, 0, -1), one ? Due.PLACE : Due.STORE);
            }
        }
        x.drop(0);
        for (int b = 0; b < 8; b++) {
            DUE.is("from one that was dropped to " + b, x.copy(0, 0, b, 0, 1), Due.NULL);
            DUE.is("to one that was dropped from " + b, x.copy(b, -1, 0, 0, 1), Due.NULL);
        }
        DUE.is("from 8 to a missing one", x.copy(8, 0, 0, 0, 1), Due.BAD);
        DUE.is("from a missing one to -1", x.copy(0, 0, -1, 0, 1), Due.BAD);
        DUE.is("to 8 of another lane", x.copy(1, -1, 8, 0, 1), Due.BAD);
    }

    private static void drops() {
        DUE.says("A ROW is missing from now on: how many ITEMS it had. BAD; NULL.");
        SpelledTones x = DUE.of(Due.READER);
        for (int row = 0; row < 8; row++) {
            x.row(row, row % 3, row < 7 ? row : 40);
        }
        Due.items(x, 5, INTS, 4, -4, 3);
        for (int row : new int[] {0, 7, 3, 1, 2, 4, 6}) {
            DUE.is("drop(" + row + ")", x.drop(row), row < 7 ? row : 40);
            DUE.is("drop(" + row + ") again", x.drop(row), Due.NULL);
            DUE.is("set of it", x.set(row, 0, 1), Due.NULL);
        }
        DUE.is("one is left", x.count(0), 1);
        DUE.rowIs(x, "as it was", 5, 4, -4, 3);
        DUE.is("the last", x.drop(5), 3);
        DUE.is("none is left", x.count(0), 0);
    }
}
