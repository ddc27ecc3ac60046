/** Names for the tones of a piece, by windows on the line of fifths. DOC.md has the promises. */
public final class SpelledTones {
    public static final int NONE = -1000000, BAD = -1000001, STATE = -1000002, FULL = -1000003;

    private static final int FINDING = -1000010, FAULTY = -1000100;
    private static final int NULL = 1, PLACE = 2, KIND = 3, SIZE = 4, STORE = 5;
    private static final int PLAIN = 1, RISING = 2, FALLING = 3, HELD = 4, LOOSE = 5;
    private static final int LOWEST_WINDOW = -15, HIGHEST_WINDOW = 8, WINDOWS = 24;
    private static final int LOWEST_PLACE = -15, HIGHEST_PLACE = 19;
    private static final int LETTERS = 7, KEYS = 12, SIGNATURES = 15, MIDDLE_SIGNATURE = 7;
    private static final int MOST_CHORDS = 10, MOST_KEYS = 4, MOST_NOTES = 40;
    private static final int MOST_SHIFT = 6, MOST_DRAWS = 20, HIGHEST_SEED = 999999;
    private static final int MOST_WAYS = 99999999, IMAGES = 2;
    // Ten chords cost less than a thousand, whatever their windows are.
    private static final int DEARER_THAN_ALL = 1000000;

    private final Rows rows = new Rows();
    private final Tape tape = new Tape();
    private final Piece now = new Piece();
    private final Best best = new Best();
    private final Piece trial = new Piece();
    private final Best trialBest = new Best();
    private final Piece[] images = new Piece[IMAGES];
    private final Acts acts = new Acts();
    private final Asks asks = new Asks();
    // BEST and HEADS are asked far more often than the piece changes: they are worked out once behind a change.
    private boolean bestStale = true;
    private boolean headsStale = true;
    private int headSignature = 0;
    private int headCost = 0;
    private int latestFault = 0;
    private int latestFinding = 0;

    public SpelledTones() {
        for (int k = 0; k < IMAGES; k++) {
            images[k] = new Piece();
        }
    }

    // ---- rows

    public int row(int row, int lane, int n) {
        if (!Rows.isRow(row) || lane < Rows.BYTES || lane > Rows.INTS || n > Rows.LONGEST) {
            return BAD;
        }
        if (n < 0) {
            return found(SIZE);
        }
        rows.make(row, lane, n);
        return fine(n);
    }

    public int set(int row, int i, int v) {
        if (!Rows.isRow(row)) {
            return BAD;
        }
        if (rows.isMissing(row)) {
            return found(NULL);
        }
        if (!rows.holds(row, i, 1)) {
            return found(PLACE);
        }
        return fine(rows.put(row, i, v));
    }

    public int copy(int a, int i, int b, int j, int n) {
        if (!Rows.isRow(a) || !Rows.isRow(b)) {
            return BAD;
        }
        if (rows.isMissing(a) || rows.isMissing(b)) {
            return found(NULL);
        }
        if (!rows.ofOneLane(a, b)) {
            return found(STORE);
        }
        if (!rows.holds(a, i, n) || !rows.holds(b, j, n)) {
            return found(PLACE);
        }
        rows.carry(a, i, b, j, n);
        return fine(n);
    }

    public int drop(int row) {
        if (!Rows.isRow(row)) {
            return BAD;
        }
        if (rows.isMissing(row)) {
            return found(NULL);
        }
        return fine(rows.lose(row));
    }

    // ---- pieces, acts

    public int feed(int letter) {
        if (letter < 0 || letter > 255) {
            return BAD;
        }
        if (tape.length == Tape.LONGEST) {
            return FULL;
        }
        tape.put(letter);
        return tape.length;
    }

    public int piece() {
        int wrong = tape.readInto(trial);
        tape.length = 0;
        if (wrong != 0) {
            latestFault = wrong;
            return FAULTY - tape.at;
        }
        now.becomeLike(trial);
        acts.forgetAll();
        changed();
        return now.chords;
    }

    public int fault() {
        return latestFault;
    }

    public int key(int note, int v) {
        if (!isNote(note) || !isKey(v)) {
            return BAD;
        }
        int before = now.keys[note];
        if (before == v) {
            return STATE;
        }
        now.keys[note] = v;
        acted(Acts.KEY, note, before);
        return before;
    }

    public int become(int chord, int kind) {
        if (!isChord(chord) || kind < PLAIN || kind > LOOSE) {
            return BAD;
        }
        int before = now.kinds[chord];
        if (before == kind) {
            return STATE;
        }
        now.kinds[chord] = kind;
        acted(Acts.BECOME, chord, before);
        return before;
    }

    public int sign(int v) {
        if (isNoPiece()) {
            return STATE;
        }
        if (!isSignature(v)) {
            return BAD;
        }
        int before = now.signature;
        if (before == v) {
            return STATE;
        }
        now.signature = v;
        acted(Acts.SIGN, 0, before);
        return before;
    }

    public int shift(int t) {
        if (isNoPiece()) {
            return STATE;
        }
        if (t < -MOST_SHIFT || t > MOST_SHIFT) {
            return BAD;
        }
        if (t == 0 || !isSignature(now.signature + t)) {
            return STATE;
        }
        now.moveBy(t);
        acted(Acts.SHIFT, 0, t);
        return now.signature;
    }

    public int undo() {
        if (acts.size == 0) {
            return STATE;
        }
        acts.takeBack(now);
        changed();
        return acts.size;
    }

    // ---- the line

    public int place(int p, int what) {
        if (p < LOWEST_PLACE || p > HIGHEST_PLACE) {
            return BAD;
        }
        switch (what) {
            case 0: return Line.letterOf(p);
            case 1: return Line.alterOf(p);
            case 2: return Line.keyOf(p);
            default: return BAD;
        }
    }

    public int inWindow(int w, int key) {
        return isWindow(w) && isKey(key) ? Line.placeIn(w, key) : BAD;
    }

    public int head(int letter) {
        if (isNoPiece() || letter < 0 || letter >= LETTERS) {
            return BAD;
        }
        return Line.headOf(now.signature, letter);
    }

    // ---- names

    public int note(int note, int what) {
        if (!isNote(note)) {
            return BAD;
        }
        switch (what) {
            case 0: return now.keys[note];
            case 1: return now.chordOf[note];
            case 2: return settled().names[note];
            case 3: return Line.letterOf(settled().names[note]);
            case 4: return Line.alterOf(settled().names[note]);
            case 5: return settled().printed[note];
            default: return BAD;
        }
    }

    public int chord(int chord, int what) {
        if (!isChord(chord)) {
            return BAD;
        }
        switch (what) {
            case 0: return now.sizeOf(chord);
            case 1: return now.firsts[chord];
            case 2: return settled().windows[chord];
            case 3: return now.priceBy(chord, settled().windows[chord]);
            case 4: return now.bars[chord];
            case 5: return now.phrases[chord];
            default: return BAD;
        }
    }

    public int whole(int what) {
        if (isNoPiece()) {
            return STATE;
        }
        switch (what) {
            case 0: return settled().cost;
            case 1: return settled().ways;
            case 2: return settled().signs;
            case 3: return signatureOfHeads();
            case 4: return costOfHeads();
            case 5: return costOfOne(cheapestOne());
            case 6: return cheapestOne();
            default: return BAD;
        }
    }

    public int price(int chord, int w) {
        return isChord(chord) && isWindow(w) ? now.priceBy(chord, w) : BAD;
    }

    public int cost(int row, int i) {
        if (isNoPiece()) {
            return STATE;
        }
        if (!Rows.isRow(row)) {
            return BAD;
        }
        if (rows.isMissing(row)) {
            return found(NULL);
        }
        if (!rows.holds(row, i, now.chords)) {
            return found(PLACE);
        }
        return fine(costOfItems(row, i));
    }

    public int fits(int chord, int row, int n, int what) {
        if (!isChord(chord) || !Rows.isRow(row) || n < 1 || n > now.notes || what < 0 || what > 2) {
            return BAD;
        }
        if (rows.isMissing(row)) {
            return found(NULL);
        }
        if (!rows.holds(row, 0, n)) {
            return found(PLACE);
        }
        switch (what) {
            case 0: return fine(fittingSignatures(row, n));
            case 1: return fine(fittingKinds(chord, row, n));
            default: return fine(fittingKeys(now.firsts[chord], row, n));
        }
    }

    public int drawn(int n, int seed, int what) {
        if (isNoPiece()) {
            return STATE;
        }
        if (n < 0 || n > MOST_DRAWS || seed < 1 || seed > HIGHEST_SEED || what < 0 || what > 1) {
            return BAD;
        }
        int together = drawOnTrial(n, seed);
        if (what == 0) {
            return together;
        }
        trialBest.solve(trial);
        trialBest.spell(trial);
        return trialBest.signs;
    }

    public int image(int k) {
        if (k < 0 || k >= IMAGES) {
            return BAD;
        }
        if (isNoPiece()) {
            return STATE;
        }
        images[k].becomeLike(now);
        return 1;
    }

    public int restore(int k) {
        if (k < 0 || k >= IMAGES) {
            return BAD;
        }
        if (images[k].chords == 0) {
            return STATE;
        }
        now.becomeLike(images[k]);
        acts.forgetAll();
        changed();
        return 1;
    }

    // ---- asked

    public int kind(int chord) {
        return isChord(chord) ? now.kinds[chord] : BAD;
    }

    public int as(int chord, int kind) {
        if (!isChord(chord) || kind < 0 || kind > LOOSE) {
            return BAD;
        }
        return Asks.isOne(now.kinds[chord], kind) ? fine(chord) : found(KIND);
    }

    public int ask(int chord, int what) {
        if (!isChord(chord) || what < 0 || what > 1) {
            return BAD;
        }
        return asks.begin(what, now.kinds[chord], chord, now.sizeOf(chord), settled().windows[chord]);
    }

    public int trace(int i) {
        return i >= 0 && i < asks.traced ? asks.bodies[i] : NONE;
    }

    public int count(int what) {
        switch (what) {
            case 0: return rows.howMany();
            case 1: return now.chords;
            case 2: return now.notes;
            case 3: return now.signature;
            case 4: return acts.size;
            case 5: return tape.length;
            default: return BAD;
        }
    }

    public int status() {
        return latestFinding;
    }

    // ---- what the calls share

    private int found(int finding) {
        latestFinding = finding;
        return FINDING - finding;
    }

    private int fine(int answer) {
        latestFinding = 0;
        return answer;
    }

    private void acted(int act, int where, int before) {
        acts.keep(act, where, before);
        changed();
    }

    private void changed() {
        bestStale = true;
        headsStale = true;
    }

    private boolean isNoPiece() {
        return now.chords == 0;
    }

    private boolean isChord(int chord) {
        return chord >= 0 && chord < now.chords;
    }

    private boolean isNote(int note) {
        return note >= 0 && note < now.notes;
    }

    private static boolean isKey(int key) {
        return key >= 0 && key < KEYS;
    }

    private static boolean isSignature(int v) {
        return v >= 0 && v < SIGNATURES;
    }

    private static boolean isWindow(int w) {
        return w >= LOWEST_WINDOW && w <= HIGHEST_WINDOW;
    }

    private Best settled() {
        if (bestStale) {
            best.solve(now);
            best.spell(now);
            bestStale = false;
        }
        return best;
    }

    // ---- what is foretold

    private void findHeads() {
        if (!headsStale) {
            return;
        }
        trial.becomeLike(now);
        headCost = DEARER_THAN_ALL;
        for (int v = 0; v < SIGNATURES; v++) {
            trial.signature = v;
            trialBest.solve(trial);
            if (trialBest.cost < headCost) {
                headCost = trialBest.cost;
                headSignature = v;
            }
        }
        headsStale = false;
    }

    private int signatureOfHeads() {
        findHeads();
        return headSignature;
    }

    private int costOfHeads() {
        findHeads();
        return headCost;
    }

    private int costOfOne(int window) {
        int sum = 0;
        for (int chord = 0; chord < now.chords; chord++) {
            sum += now.priceBy(chord, window);
        }
        return sum;
    }

    private int cheapestOne() {
        int cheapest = LOWEST_WINDOW;
        int least = costOfOne(LOWEST_WINDOW);
        for (int w = LOWEST_WINDOW + 1; w <= HIGHEST_WINDOW; w++) {
            int cost = costOfOne(w);
            if (cost < least) {
                least = cost;
                cheapest = w;
            }
        }
        return cheapest;
    }

    private int costOfItems(int row, int from) {
        int sum = 0;
        for (int chord = 0; chord < now.chords; chord++) {
            int window = rows.itemOf(row, from + chord);
            if (!isWindow(window)) {
                return NONE;
            }
            if (chord > 0) {
                int ahead = rows.itemOf(row, from + chord - 1);
                if (now.staysWithin(chord) && window != ahead) {
                    return NONE;
                }
                sum += now.priceOfStep(chord, ahead, window);
            }
            sum += now.priceBy(chord, window);
        }
        return sum;
    }

    private int fittingSignatures(int row, int n) {
        int bits = 0;
        trial.becomeLike(now);
        for (int v = 0; v < SIGNATURES; v++) {
            trial.signature = v;
            bits |= bitIfLettersFit(v, row, n);
        }
        return bits;
    }

    private int fittingKinds(int chord, int row, int n) {
        int bits = 0;
        trial.becomeLike(now);
        for (int kind = PLAIN; kind <= LOOSE; kind++) {
            trial.kinds[chord] = kind;
            bits |= bitIfLettersFit(kind, row, n);
        }
        return bits;
    }

    private int fittingKeys(int note, int row, int n) {
        int bits = 0;
        trial.becomeLike(now);
        for (int key = 0; key < KEYS; key++) {
            trial.keys[note] = key;
            bits |= bitIfLettersFit(key, row, n);
        }
        return bits;
    }

    private int bitIfLettersFit(int bit, int row, int n) {
        trialBest.solve(trial);
        trialBest.spell(trial);
        for (int note = 0; note < n; note++) {
            if (rows.itemOf(row, note) != Line.letterOf(trialBest.names[note])) {
                return 0;
            }
        }
        return 1 << bit;
    }

    private int drawOnTrial(int n, int seed) {
        trial.becomeLike(now);
        long x = seed;
        int together = 0;
        for (int i = 0; i < n && trial.notes > 0; i++) {
            x = x * 16807 % 2147483647;
            trial.keys[(int) (x % trial.notes)] = (int) (x / 32 % KEYS);
            trialBest.solve(trial);
            together += trialBest.cost;
        }
        return together;
    }

    /** Rows of items, each row at a fixed stretch of one array, so that no call makes an array. */
    private static final class Rows {
        static final int ROWS = 8, LONGEST = 40;
        static final int BYTES = 0, SHORTS = 1, INTS = 2;
        private static final int MISSING = -1;

        private final int[] items = new int[ROWS * LONGEST];
        private final int[] lanes = new int[ROWS];
        private final int[] sizes = new int[ROWS];

        Rows() {
            for (int row = 0; row < ROWS; row++) {
                sizes[row] = MISSING;
            }
        }

        static boolean isRow(int row) {
            return row >= 0 && row < ROWS;
        }

        boolean isMissing(int row) {
            return sizes[row] == MISSING;
        }

        boolean ofOneLane(int a, int b) {
            return lanes[a] == lanes[b];
        }

        // i is tested ahead of the difference, which cannot overflow then.
        boolean holds(int row, int i, int n) {
            return i >= 0 && n >= 0 && n <= sizes[row] - i;
        }

        void make(int row, int lane, int n) {
            lanes[row] = lane;
            sizes[row] = n;
            for (int i = 0; i < n; i++) {
                items[row * LONGEST + i] = 0;
            }
        }

        int put(int row, int i, int v) {
            int kept = v;
            if (lanes[row] == BYTES) {
                kept = (byte) v;
            } else if (lanes[row] == SHORTS) {
                kept = (short) v;
            }
            items[row * LONGEST + i] = kept;
            return kept;
        }

        int itemOf(int row, int i) {
            return items[row * LONGEST + i];
        }

        void carry(int a, int i, int b, int j, int n) {
            System.arraycopy(items, a * LONGEST + i, items, b * LONGEST + j, n);
        }

        int lose(int row) {
            int had = sizes[row];
            sizes[row] = MISSING;
            return had;
        }

        int howMany() {
            int sum = 0;
            for (int row = 0; row < ROWS; row++) {
                sum += sizes[row] == MISSING ? 0 : 1;
            }
            return sum;
        }
    }

    /** Places of the line of fifths. */
    private static final class Line {
        static int letterOf(int place) {
            return Math.floorMod(place + 1, LETTERS);
        }

        static int alterOf(int place) {
            return Math.floorDiv(place + 1, LETTERS);
        }

        static int keyOf(int place) {
            return Math.floorMod(7 * place, KEYS);
        }

        // 7 times 7 leaves 1 by 12: the same factor leads from a key back to its places.
        static int placeIn(int window, int key) {
            return window + Math.floorMod(7 * key - window, KEYS);
        }

        static int headOf(int signature, int letter) {
            if (letter < signature - MIDDLE_SIGNATURE) {
                return 1;
            }
            return letter >= signature ? -1 : 0;
        }
    }

    /** A piece; without chords it is none. */
    private static final class Piece {
        int signature = 0;
        int chords = 0;
        int notes = 0;
        final int[] kinds = new int[MOST_CHORDS];
        final int[] bars = new int[MOST_CHORDS];
        final int[] phrases = new int[MOST_CHORDS];
        // One more than there are chords: the notes of a chord end where those of the next begin.
        final int[] firsts = new int[MOST_CHORDS + 1];
        final int[] keys = new int[MOST_NOTES];
        final int[] chordOf = new int[MOST_NOTES];

        void clear() {
            signature = 0;
            chords = 0;
            notes = 0;
        }

        void becomeLike(Piece other) {
            signature = other.signature;
            chords = other.chords;
            notes = other.notes;
            System.arraycopy(other.kinds, 0, kinds, 0, chords);
            System.arraycopy(other.bars, 0, bars, 0, chords);
            System.arraycopy(other.phrases, 0, phrases, 0, chords);
            System.arraycopy(other.firsts, 0, firsts, 0, chords + 1);
            System.arraycopy(other.keys, 0, keys, 0, notes);
            System.arraycopy(other.chordOf, 0, chordOf, 0, notes);
        }

        void addChord(int kind, boolean bar, boolean phrase) {
            if (chords < MOST_CHORDS) {
                kinds[chords] = kind;
                bars[chords] = bar ? 1 : 0;
                phrases[chords] = phrase ? 1 : 0;
                firsts[chords] = notes;
                chords++;
                firsts[chords] = notes;
            }
        }

        void addKey(int key) {
            if (chords > 0 && notes < MOST_NOTES) {
                keys[notes] = key;
                chordOf[notes] = chords - 1;
                notes++;
                firsts[chords] = notes;
            }
        }

        int sizeOf(int chord) {
            return firsts[chord + 1] - firsts[chord];
        }

        void moveBy(int t) {
            signature += t;
            for (int note = 0; note < notes; note++) {
                keys[note] = Math.floorMod(keys[note] + 7 * t, KEYS);
            }
        }

        /** Whether a chord has the window of the one ahead. */
        boolean staysWithin(int chord) {
            return chord > 0 && (kinds[chord] == HELD || kinds[chord] == LOOSE);
        }

        int priceBy(int chord, int window) {
            int kind = kinds[chord];
            if (kind == LOOSE) {
                return 0;
            }
            int sum = 0;
            // Four bits for each letter count its notes: a new one is a pair with each of them.
            int seen = 0;
            for (int note = firsts[chord]; note < firsts[chord + 1]; note++) {
                int name = Line.placeIn(window, keys[note]);
                int letter = Line.letterOf(name);
                sum += priceOfName(kind, Line.alterOf(name), Line.headOf(signature, letter));
                sum += 5 * (seen >> 4 * letter & 15);
                seen += 1 << 4 * letter;
            }
            return sum;
        }

        private static int priceOfName(int kind, int alter, int head) {
            int far = Math.abs(alter - head);
            boolean half = kind == RISING && alter > 0 || kind == FALLING && alter < 0;
            return half ? far : 2 * far;
        }

        int priceOfStep(int chord, int from, int to) {
            int far = Math.abs(from - to);
            return phrases[chord] == 1 ? far / 2 : far;
        }
    }

    /** The cheapest windows of a piece, and the names and signs that come of them. */
    private static final class Best {
        int cost = 0;
        int ways = 0;
        int signs = 0;
        final int[] windows = new int[MOST_CHORDS];
        final int[] names = new int[MOST_NOTES];
        final int[] printed = new int[MOST_NOTES];

        // By chord and window: the least cost from there to the end, the ways to it, the first window next.
        private final int[] costs = new int[MOST_CHORDS * WINDOWS];
        private final long[] counts = new long[MOST_CHORDS * WINDOWS];
        private final int[] nexts = new int[MOST_CHORDS * WINDOWS];
        private final int[] inForce = new int[LETTERS];

        // From the end to the beginning, so that the first of the cheapest can be picked going forwards.
        void solve(Piece piece) {
            for (int chord = piece.chords - 1; chord >= 0; chord--) {
                for (int w = 0; w < WINDOWS; w++) {
                    int at = chord * WINDOWS + w;
                    goOn(piece, chord, w);
                    costs[at] += piece.priceBy(chord, LOWEST_WINDOW + w);
                }
            }
            pick(piece.chords);
        }

        private void goOn(Piece piece, int chord, int w) {
            int at = chord * WINDOWS + w;
            if (chord + 1 >= piece.chords) {
                costs[at] = 0;
                counts[at] = 1;
                nexts[at] = w;
            } else if (piece.staysWithin(chord + 1)) {
                costs[at] = costs[at + WINDOWS];
                counts[at] = counts[at + WINDOWS];
                nexts[at] = w;
            } else {
                choose(at, w, piece.phrases[chord + 1] == 1);
            }
        }

        private void choose(int at, int w, boolean phrase) {
            int next = at - w + WINDOWS;
            int least = DEARER_THAN_ALL;
            int first = 0;
            long count = 0;
            for (int to = 0; to < WINDOWS; to++) {
                int far = to < w ? w - to : to - w;
                int sum = costs[next + to] + (phrase ? far / 2 : far);
                if (sum < least) {
                    least = sum;
                    first = to;
                    count = counts[next + to];
                } else if (sum == least) {
                    count += counts[next + to];
                }
            }
            costs[at] = least;
            counts[at] = count;
            nexts[at] = first;
        }

        private void pick(int chords) {
            int first = 0;
            long count = 0;
            for (int w = 0; w < WINDOWS; w++) {
                if (costs[w] < costs[first]) {
                    first = w;
                    count = 0;
                }
                if (costs[w] == costs[first]) {
                    count += counts[w];
                }
            }
            cost = costs[first];
            ways = (int) Math.min(count, MOST_WAYS);
            int w = first;
            for (int chord = 0; chord < chords; chord++) {
                windows[chord] = LOWEST_WINDOW + w;
                w = nexts[chord * WINDOWS + w];
            }
        }

        void spell(Piece piece) {
            signs = 0;
            for (int note = 0; note < piece.notes; note++) {
                int chord = piece.chordOf[note];
                if (note == piece.firsts[chord] && piece.bars[chord] == 1) {
                    beginBar(piece.signature);
                }
                names[note] = Line.placeIn(windows[chord], piece.keys[note]);
                print(note);
            }
        }

        private void beginBar(int signature) {
            for (int letter = 0; letter < LETTERS; letter++) {
                inForce[letter] = Line.headOf(signature, letter);
            }
        }

        private void print(int note) {
            int letter = Line.letterOf(names[note]);
            int alter = Line.alterOf(names[note]);
            if (inForce[letter] == alter) {
                printed[note] = NONE;
            } else {
                printed[note] = alter;
                inForce[letter] = alter;
                signs++;
            }
        }
    }

    /** The tape, and how a piece is read from it, token by token. */
    private static final class Tape {
        static final int LONGEST = 130;
        private static final int END = -1, NO_TOKEN = -2, NUMBER = -3;
        private static final int CANNOT_STAND = 1, NOT_AS_TOLD = 2, NO_ROOM = 3;
        // What is wanted next.
        private static final int LAW = 0, SIGNATURE = 1, LAW_END = 2, CHORD = 3, KEY = 4, KEY_END = 5,
                ANY = 6, BAR_END = 7, PHRASE_OR_CHORD = 8, PHRASE_END = 9;

        private final int[] bytes = new int[LONGEST];
        int length = 0;
        /** Where the token that is read begins. */
        int at = 0;
        private int token;
        private int width;
        private int value;
        private int wanted;
        private int lastKey;
        private boolean bar;
        private boolean phrase;

        void put(int letter) {
            if (length < LONGEST) {
                bytes[length] = letter;
                length++;
            }
        }

        /** The number of the fault, which is at the place at, or 0. */
        int readInto(Piece piece) {
            piece.clear();
            at = 0;
            wanted = LAW;
            bar = true;
            phrase = true;
            for (int i = 0; i <= LONGEST; i++) {
                takeToken();
                if (token == END) {
                    return wanted == ANY ? 0 : CANNOT_STAND;
                }
                int wrong = step(piece);
                if (wrong != 0) {
                    return wrong;
                }
                at += width;
            }
            return CANNOT_STAND;
        }

        private void takeToken() {
            width = 1;
            if (at >= length) {
                token = END;
            } else if (isFigure(at)) {
                takeNumber();
            } else {
                int letter = bytes[at];
                boolean known = letter >= 'a' && letter <= 'z' || letter == ',' || letter == ';';
                token = known ? letter : NO_TOKEN;
            }
        }

        private void takeNumber() {
            value = bytes[at] - '0';
            token = NUMBER;
            if (isFigure(at + 1)) {
                width = 2;
                value = 10 * value + bytes[at + 1] - '0';
                if (isFigure(at + 2)) {
                    token = NO_TOKEN;
                }
            }
        }

        private boolean isFigure(int i) {
            return i < length && i < LONGEST && bytes[i] >= '0' && bytes[i] <= '9';
        }

        private int step(Piece piece) {
            switch (wanted) {
                case LAW: return want('k', SIGNATURE);
                case SIGNATURE: return takeSignature(piece);
                case LAW_END: return want(';', CHORD);
                case BAR_END: return want(';', PHRASE_OR_CHORD);
                case PHRASE_END: return want(';', CHORD);
                case KEY: return takeKey(piece);
                case KEY_END: return endKey(piece);
                default: return takeLetter(piece);
            }
        }

        private int want(int letter, int then) {
            if (token != letter) {
                return CANNOT_STAND;
            }
            wanted = then;
            return 0;
        }

        private int takeSignature(Piece piece) {
            if (token != NUMBER) {
                return CANNOT_STAND;
            }
            if (!isSignature(value)) {
                return NOT_AS_TOLD;
            }
            piece.signature = value;
            wanted = LAW_END;
            return 0;
        }

        private int takeLetter(Piece piece) {
            if (token == 'b' && wanted == ANY) {
                bar = true;
                wanted = BAR_END;
                return 0;
            }
            if (token == 'f' && wanted != CHORD) {
                phrase = true;
                wanted = PHRASE_END;
                return 0;
            }
            return takeSort(piece);
        }

        private int takeSort(Piece piece) {
            int kind = kindOfSort(token);
            if (kind == 0) {
                return CANNOT_STAND;
            }
            if (piece.chords >= MOST_CHORDS) {
                return NO_ROOM;
            }
            piece.addChord(kind, bar, phrase);
            bar = false;
            phrase = false;
            lastKey = -1;
            wanted = KEY;
            return 0;
        }

        private static int kindOfSort(int letter) {
            switch (letter) {
                case 'c': return PLAIN;
                case 'r': return RISING;
                case 'l': return FALLING;
                case 'h': return HELD;
                case 'o': return LOOSE;
                default: return 0;
            }
        }

        private int takeKey(Piece piece) {
            if (token != NUMBER) {
                return CANNOT_STAND;
            }
            if (!isKey(value) || value <= lastKey) {
                return NOT_AS_TOLD;
            }
            piece.addKey(value);
            lastKey = value;
            wanted = KEY_END;
            return 0;
        }

        private int endKey(Piece piece) {
            boolean room = piece.chords > 0 && piece.sizeOf(piece.chords - 1) < MOST_KEYS;
            return token == ',' && room ? want(',', KEY) : want(';', ANY);
        }
    }

    /** The acts that can be undone, the oldest first. */
    private static final class Acts {
        static final int KEY = 0, BECOME = 1, SIGN = 2, SHIFT = 3;
        private static final int MOST = 16;

        int size = 0;
        private final int[] sorts = new int[MOST];
        private final int[] wheres = new int[MOST];
        private final int[] befores = new int[MOST];

        void forgetAll() {
            size = 0;
        }

        /** Keeps what was before an act; of a shift, by how much it was. */
        void keep(int sort, int where, int before) {
            if (size >= MOST) {
                forgetOldest();
            }
            sorts[size] = sort;
            wheres[size] = where;
            befores[size] = before;
            size++;
        }

        private void forgetOldest() {
            System.arraycopy(sorts, 1, sorts, 0, MOST - 1);
            System.arraycopy(wheres, 1, wheres, 0, MOST - 1);
            System.arraycopy(befores, 1, befores, 0, MOST - 1);
            size = MOST - 1;
        }

        void takeBack(Piece piece) {
            if (size <= 0) {
                return;
            }
            size--;
            int where = wheres[size];
            int before = befores[size];
            switch (sorts[size]) {
                case KEY: piece.keys[where] = before; break;
                case BECOME: piece.kinds[where] = before; break;
                case SIGN: piece.signature = before; break;
                default: piece.moveBy(-before); break;
            }
        }
    }

    /** What chords are asked, by bodies, and the trace that these leave. */
    private static final class Asks {
        private static final int MOST_TRACED = 16, DEEPEST = 8;
        // By kind: the kind that it is, too; the body that begins.
        private static final int[] NEAREST = {0, 0, 1, 1, 0, 4};
        private static final int[] SIZE_BODIES = {10, 11, 12, 11, 13, 14};
        private static final int[] MARK_BODIES = {20, 21, 24, 22, 23, 23};

        int traced = 0;
        final int[] bodies = new int[MOST_TRACED];
        private int kind = 0;
        private int number = 0;
        private int notes = 0;
        private int window = 0;

        // Every kind is a chord, and no kind is further than one other kind below that.
        static boolean isOne(int kind, int asked) {
            return asked == 0 || asked == kind || asked == NEAREST[kind];
        }

        int begin(int what, int kind, int number, int notes, int window) {
            this.kind = kind;
            this.number = number;
            this.notes = notes;
            this.window = window;
            traced = 0;
            return run(what == 0 ? SIZE_BODIES[kind] : MARK_BODIES[kind], 0);
        }

        private int run(int body, int depth) {
            if (depth > DEEPEST) {
                return 0;
            }
            leave(body);
            int under = depth + 1;
            switch (body) {
                case 10: return notes;
                case 11: return run(10, under) + run(MARK_BODIES[kind], under);
                case 12: return -run(11, under);
                case 13: return run(10, under) - 100;
                case 14: return 2 * run(13, under);
                case 20: return number;
                case 21: return run(20, under) + window;
                case 22: return run(21, under) - 1000;
                case 23: return run(20, under) - run(SIZE_BODIES[kind], under);
                default: return 2 * run(21, under);
            }
        }

        private void leave(int body) {
            if (traced < MOST_TRACED) {
                bodies[traced] = body;
                traced++;
            }
        }
    }
}
