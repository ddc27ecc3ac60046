import java.math.BigInteger;
import java.util.ArrayDeque;
import java.util.ArrayList;
import java.util.Arrays;
import java.util.Deque;
import java.util.List;
import java.util.Random;

/** Long runs of drawn calls, each answer held against a second program that was written another way. */
public final class ReferenceTest {
    private static final int NONE = -1000000, BAD = -1000001, STATE = -1000002, FULL = -1000003;
    private static final int RUNS = 300, CALLS = 512;
    private static int wrong = 0;

    public static void main(String[] args) {
        for (int run = 0; run < RUNS && wrong == 0; run++) {
            new Run(run).go();
        }
        for (int seed = 0; seed < 60 && wrong == 0; seed++) {
            allWindowsTried(seed);
        }
        System.out.println(wrong == 0 ? "as the reference says" : wrong + " answers are not as the reference says");
        if (wrong != 0) {
            System.exit(1);
        }
    }

    // ---- every row of windows of a short piece, against cost(), BEST, WAYS

    private static void allWindowsTried(int seed) {
        Random random = new Random(7000 + seed);
        SpelledTones x = new SpelledTones();
        String text = "";
        int chords = 0;
        while (chords < 1 || chords > 3) {
            text = Texts.good(random, 3);
            for (char c : text.toCharArray()) {
                x.feed(c);
            }
            chords = x.piece();
        }
        x.row(0, random.nextInt(3), 5);
        int least = Integer.MAX_VALUE;
        int ways = 0;
        int[] first = null;
        int rows = (int) Math.pow(24, chords);
        for (int number = 0; number < rows; number++) {
            int[] windows = new int[chords];
            int rest = number;
            for (int c = chords - 1; c >= 0; c--) {
                windows[c] = rest % 24 - 15;
                rest /= 24;
                x.set(0, 1 + c, windows[c]);
            }
            int cost = x.cost(0, 1);
            if (cost != NONE && cost < least) {
                least = cost;
                ways = 0;
                first = windows;
            }
            ways += cost == least ? 1 : 0;
        }
        check(text, "whole(0)", x.whole(0), least);
        check(text, "whole(1)", x.whole(1), ways);
        for (int c = 0; c < chords; c++) {
            check(text, "chord(" + c + ", 2)", x.chord(c, 2), first[c]);
        }
    }

    private static void check(String where, String call, int got, int want) {
        if (got != want) {
            wrong++;
            System.out.println(where + ": " + call + " answered " + got + ", due is " + want);
        }
    }

    // ---- texts of pieces

    private static final class Texts {
        static String good(Random random, int most) {
            StringBuilder text = new StringBuilder("k").append(random.nextInt(15)).append(';');
            int chords = 1 + random.nextInt(most);
            for (int c = 0; c < chords; c++) {
                if (c > 0 && random.nextInt(3) == 0) {
                    text.append("b;");
                }
                if (c > 0 && random.nextInt(4) == 0) {
                    text.append("f;");
                }
                text.append("ccrrllho".charAt(random.nextInt(8)));
                int bits = 0;
                int keys = 1 + random.nextInt(4);
                while (Integer.bitCount(bits) < keys) {
                    bits |= 1 << random.nextInt(12);
                }
                String between = "";
                for (int key = 0; key < 12; key++) {
                    if ((bits >> key & 1) == 1) {
                        text.append(between).append(random.nextInt(20) == 0 && key < 10 ? "0" : "").append(key);
                        between = ",";
                    }
                }
                text.append(';');
            }
            return text.toString();
        }

        static String spoilt(Random random) {
            StringBuilder text = new StringBuilder(good(random, 12));
            int changes = random.nextInt(3);
            for (int i = 0; i < changes; i++) {
                int at = random.nextInt(text.length());
                char c = random.nextInt(6) == 0 ? (char) random.nextInt(256)
                        : "kcrlhobf,;0123456789".charAt(random.nextInt(20));
                switch (random.nextInt(4)) {
                    case 0: text.insert(at, c); break;
                    case 1: text.setCharAt(at, c); break;
                    case 2: text.setLength(Math.max(1, at)); break;
                    default: text.deleteCharAt(at); break;
                }
                if (text.length() == 0) {
                    text.append('k');
                }
            }
            return text.toString();
        }
    }

    // ---- one run

    private static final class Run {
        final int number;
        final Random random;
        final SpelledTones x = new SpelledTones();
        final Model model = new Model();
        final StringBuilder told = new StringBuilder();
        int calls = 0;

        Run(int number) {
            this.number = number;
            random = new Random(31L * number + 5);
        }

        void go() {
            while (calls < CALLS && wrong == 0) {
                switch (random.nextInt(12)) {
                    case 0: tellPiece(); break;
                    case 1: lookAround(); break;
                    case 2: undoAll(); break;
                    default: one(); break;
                }
            }
        }

        void tellPiece() {
            if (random.nextInt(3) != 0) {
                return;
            }
            String text = random.nextBoolean() ? Texts.good(random, 10) : Texts.spoilt(random);
            for (char c : text.toCharArray()) {
                due("feed(" + (int) c + ")", x.feed(c), model.feed(c));
            }
            due("piece()", x.piece(), model.piece());
            due("fault()", x.fault(), model.fault);
        }

        void undoAll() {
            if (random.nextInt(8) != 0) {
                return;
            }
            for (int i = 0; i < 18; i++) {
                due("undo()", x.undo(), model.undo());
                due("whole(0)", x.whole(0), model.whole(0));
            }
        }

        void lookAround() {
            for (int i = -1; i < 7; i++) {
                due("count(" + i + ")", x.count(i), model.count(i));
            }
            due("status()", x.status(), model.status);
            int note = random.nextInt(41) - 1;
            int chord = random.nextInt(11) - 1;
            for (int i = -1; i < 7; i++) {
                due("note(" + note + ", " + i + ")", x.note(note, i), model.note(note, i));
                due("chord(" + chord + ", " + i + ")", x.chord(chord, i), model.chord(chord, i));
                due("trace(" + i + ")", x.trace(i), model.trace(i));
            }
        }

        /** A number from low to high, now and then one beyond, seldom a wild one. */
        int pick(int low, int high) {
            int sort = random.nextInt(30);
            if (sort == 0) {
                int[] wild = {Integer.MIN_VALUE, Integer.MAX_VALUE, -1, low - 1, high + 1, random.nextInt()};
                return wild[random.nextInt(wild.length)];
            }
            return low + random.nextInt(high - low + 1);
        }

        int pickNote() {
            return pick(0, Math.max(0, model.notes() - 1));
        }

        int pickChord() {
            return pick(0, Math.max(0, model.chords() - 1));
        }

        void one() {
            int a = 0;
            int b = 0;
            int c = 0;
            int d = 0;
            int e = 0;
            switch (random.nextInt(29)) {
                case 0: a = pick(0, 7); b = pick(0, 2); c = pick(-1, 40);
                    due(told("row", a, b, c), x.row(a, b, c), model.row(a, b, c)); break;
                case 1: a = pick(0, 7); b = pick(0, 25); c = random.nextBoolean() ? random.nextInt() : pick(-15, 8);
                    due(told("set", a, b, c), x.set(a, b, c), model.set(a, b, c)); break;
                case 2: a = pick(0, 7); b = pick(0, 9); c = pick(0, 7); d = pick(0, 9); e = pick(0, 9);
                    due(told("copy", a, b, c, d, e), x.copy(a, b, c, d, e), model.copy(a, b, c, d, e)); break;
                case 3: a = pick(0, 7);
                    if (random.nextInt(3) == 0) due(told("drop", a), x.drop(a), model.drop(a)); break;
                case 4: a = pick(0, 255);
                    if (random.nextInt(9) == 0) due(told("feed", a), x.feed(a), model.feed(a)); break;
                case 5: if (random.nextInt(9) == 0) due("piece()", x.piece(), model.piece());
                    due("fault()", x.fault(), model.fault); break;
                case 6: a = pickNote(); b = pick(0, 11);
                    due(told("key", a, b), x.key(a, b), model.key(a, b)); break;
                case 7: a = pickChord(); b = pick(1, 5);
                    due(told("become", a, b), x.become(a, b), model.become(a, b)); break;
                case 8: a = pick(0, 14);
                    due(told("sign", a), x.sign(a), model.sign(a)); break;
                case 9: a = pick(-6, 6);
                    due(told("shift", a), x.shift(a), model.shift(a)); break;
                case 10: if (random.nextInt(3) == 0) due("undo()", x.undo(), model.undo()); break;
                case 11: a = pick(-15, 19); b = pick(0, 2);
                    due(told("place", a, b), x.place(a, b), model.place(a, b)); break;
                case 12: a = pick(-15, 8); b = pick(0, 11);
                    due(told("inWindow", a, b), x.inWindow(a, b), model.inWindow(a, b)); break;
                case 13: a = pick(0, 6);
                    due(told("head", a), x.head(a), model.head(a)); break;
                case 14: case 15: a = pickNote(); b = pick(0, 5);
                    due(told("note", a, b), x.note(a, b), model.note(a, b)); break;
                case 16: a = pickChord(); b = pick(0, 5);
                    due(told("chord", a, b), x.chord(a, b), model.chord(a, b)); break;
                case 17: a = pick(0, 6);
                    due(told("whole", a), x.whole(a), model.whole(a)); break;
                case 18: a = pickChord(); b = pick(-15, 8);
                    due(told("price", a, b), x.price(a, b), model.price(a, b)); break;
                case 19: windowsIntoARow(); break;
                case 20: a = pick(0, 7); b = pick(0, 12);
                    due(told("cost", a, b), x.cost(a, b), model.cost(a, b)); break;
                case 21: lettersIntoARow(); break;
                case 22: a = pickChord(); b = pick(0, 7); c = pick(1, 12); d = pick(0, 2);
                    due(told("fits", a, b, c, d), x.fits(a, b, c, d), model.fits(a, b, c, d)); break;
                case 23: a = pick(0, 20); b = pick(1, 999999); c = pick(0, 1);
                    due(told("drawn", a, b, c), x.drawn(a, b, c), model.drawn(a, b, c)); break;
                case 24: a = pick(0, 1);
                    due(told("image", a), x.image(a), model.image(a)); break;
                case 25: a = pick(0, 1);
                    if (random.nextInt(4) == 0) due(told("restore", a), x.restore(a), model.restore(a)); break;
                case 26: a = pickChord();
                    due(told("kind", a), x.kind(a), model.kind(a)); break;
                case 27: a = pickChord(); b = pick(0, 5);
                    due(told("as", a, b), x.as(a, b), model.as(a, b));
                    due("status()", x.status(), model.status); break;
                default: a = pickChord(); b = pick(0, 1);
                    due(told("ask", a, b), x.ask(a, b), model.ask(a, b));
                    for (int i = 0; i < 8; i++) {
                        due(told("trace", i), x.trace(i), model.trace(i));
                    }
                    break;
            }
        }

        void windowsIntoARow() {
            int row = random.nextInt(8);
            int n = model.chords() + random.nextInt(3);
            int from = random.nextInt(3);
            due(told("row", row, 0, n), x.row(row, 0, n), model.row(row, 0, n));
            int w = random.nextInt(24) - 15;
            for (int i = 0; i < n; i++) {
                if (i >= from && i - from < model.chords() && model.chord(i - from, -7) == 0 && random.nextInt(3) == 0) {
                    w = random.nextInt(24) - 15;
                }
                due(told("set", row, i, w), x.set(row, i, w), model.set(row, i, w));
            }
            due(told("cost", row, from), x.cost(row, from), model.cost(row, from));
            due("status()", x.status(), model.status);
        }

        /** The letters that stand now, or those of another signature, so that something fits. */
        void lettersIntoARow() {
            if (model.notes() == 0) {
                return;
            }
            int row = random.nextInt(8);
            int n = 1 + random.nextInt(Math.min(model.notes(), random.nextBoolean() ? 40 : 4));
            due(told("row", row, 1, n), x.row(row, 1, n), model.row(row, 1, n));
            Score other = model.score.like();
            if (random.nextBoolean()) {
                other.signature = random.nextInt(15);
            }
            int[] names = other.names();
            for (int i = 0; i < n; i++) {
                int v = Places.letter(names[i]);
                due(told("set", row, i, v), x.set(row, i, v), model.set(row, i, v));
            }
            int chord = random.nextInt(model.chords());
            for (int what = 0; what < 3; what++) {
                due(told("fits", chord, row, n, what), x.fits(chord, row, n, what), model.fits(chord, row, n, what));
            }
        }

        String told(String name, int... with) {
            return name + Arrays.toString(with).replace('[', '(').replace(']', ')');
        }

        void due(String call, int got, int want) {
            calls++;
            told.append(call).append(" = ").append(want).append('\n');
            if (got != want) {
                wrong++;
                System.out.print(told);
                System.out.println("run " + number + ": " + call + " answered " + got + ", due is " + want);
            }
        }
    }

    // ---- the second program

    private static final class Fault extends RuntimeException {
        private static final long serialVersionUID = 1L;
        final int place;
        final int number;

        Fault(int place, int number) {
            this.place = place;
            this.number = number;
        }
    }

    private static final class Score {
        int signature;
        final List<Integer> kinds = new ArrayList<>();
        final List<Boolean> bars = new ArrayList<>();
        final List<Boolean> phrases = new ArrayList<>();
        final List<List<Integer>> keys = new ArrayList<>();

        Score like() {
            Score other = new Score();
            other.signature = signature;
            other.kinds.addAll(kinds);
            other.bars.addAll(bars);
            other.phrases.addAll(phrases);
            for (List<Integer> chord : keys) {
                other.keys.add(new ArrayList<>(chord));
            }
            return other;
        }

        int notes() {
            return keys.stream().mapToInt(List::size).sum();
        }

        int[] whereIs(int note) {
            int rest = note;
            for (int c = 0; c < keys.size(); c++) {
                if (rest < keys.get(c).size()) {
                    return new int[] {c, rest};
                }
                rest -= keys.get(c).size();
            }
            return null;
        }

        void setKey(int note, int v) {
            int[] at = whereIs(note);
            keys.get(at[0]).set(at[1], v);
        }

        boolean stays(int chord) {
            return chord > 0 && kinds.get(chord) >= 4;
        }

        int price(int chord, int w) {
            if (kinds.get(chord) == 5) {
                return 0;
            }
            int sum = 0;
            List<Integer> letters = new ArrayList<>();
            for (int key : keys.get(chord)) {
                int name = Places.named(w, key);
                int far = 2 * Math.abs(Places.alter(name) - Places.head(signature, Places.letter(name)));
                if (kinds.get(chord) == 2 && Places.alter(name) > 0) {
                    far /= 2;
                }
                if (kinds.get(chord) == 3 && Places.alter(name) < 0) {
                    far /= 2;
                }
                sum += far;
                letters.add(Places.letter(name));
            }
            for (int i = 0; i < letters.size(); i++) {
                for (int j = 0; j < i; j++) {
                    sum += letters.get(i).equals(letters.get(j)) ? 5 : 0;
                }
            }
            return sum;
        }

        int step(int chord, int from, int to) {
            int far = Math.max(from, to) - Math.min(from, to);
            return phrases.get(chord) ? far / 2 : far;
        }

        Found best() {
            Found[] here = new Found[24];
            for (int w = 0; w < 24; w++) {
                here[w] = new Found(price(0, w - 15), BigInteger.ONE, new int[] {w - 15});
            }
            for (int chord = 1; chord < kinds.size(); chord++) {
                Found[] next = new Found[24];
                for (int w = 0; w < 24; w++) {
                    int price = price(chord, w - 15);
                    for (int from = 0; from < 24; from++) {
                        if (!stays(chord) || from == w) {
                            next[w] = Found.better(next[w], here[from].on(step(chord, from, w) + price, w - 15));
                        }
                    }
                }
                here = next;
            }
            Found all = null;
            for (Found one : here) {
                all = Found.better(all, one);
            }
            return all;
        }

        int[] names() {
            int[] windows = best().windows;
            int[] names = new int[notes()];
            int note = 0;
            for (int c = 0; c < keys.size(); c++) {
                for (int key : keys.get(c)) {
                    names[note++] = Places.named(windows[c], key);
                }
            }
            return names;
        }

        Integer[] printed() {
            int[] names = names();
            Integer[] signs = new Integer[names.length];
            int[] force = new int[7];
            int note = 0;
            for (int c = 0; c < keys.size(); c++) {
                for (int letter = 0; letter < 7 && bars.get(c); letter++) {
                    force[letter] = Places.head(signature, letter);
                }
                for (int i = 0; i < keys.get(c).size(); i++, note++) {
                    int alter = Places.alter(names[note]);
                    if (force[Places.letter(names[note])] != alter) {
                        signs[note] = alter;
                        force[Places.letter(names[note])] = alter;
                    }
                }
            }
            return signs;
        }

        int signs() {
            return (int) Arrays.stream(printed()).filter(s -> s != null).count();
        }
    }

    /** A cost, in how many ways, and the first windows of it. */
    private static final class Found {
        final int cost;
        final BigInteger ways;
        final int[] windows;

        Found(int cost, BigInteger ways, int[] windows) {
            this.cost = cost;
            this.ways = ways;
            this.windows = windows;
        }

        Found on(int more, int w) {
            int[] longer = Arrays.copyOf(windows, windows.length + 1);
            longer[windows.length] = w;
            return new Found(cost + more, ways, longer);
        }

        static Found better(Found a, Found b) {
            if (a == null || b.cost < a.cost) {
                return b;
            }
            if (b.cost > a.cost) {
                return a;
            }
            int[] first = Arrays.compare(a.windows, b.windows) <= 0 ? a.windows : b.windows;
            return new Found(a.cost, a.ways.add(b.ways), first);
        }
    }

    private static final class Places {
        private static final String NAMES = "fcgdaeb";
        private static final int[] LETTERS = new int[35];
        private static final int[] ALTERS = new int[35];
        private static final int[] KEYS = new int[35];

        static {
            for (int place = -15; place < 20; place++) {
                LETTERS[place + 15] = walkedLetter(place);
                ALTERS[place + 15] = walkedAlter(place);
                KEYS[place + 15] = walkedKey(place);
            }
        }

        static int letter(int place) {
            return LETTERS[place + 15];
        }

        static int alter(int place) {
            return ALTERS[place + 15];
        }

        static int key(int place) {
            return KEYS[place + 15];
        }

        /** Told by walking: from c, a fifth up or down at a time. */
        static int walkedLetter(int place) {
            int at = NAMES.indexOf('c');
            for (int i = 0; i < Math.abs(place); i++) {
                at = (at + (place > 0 ? 1 : 6)) % 7;
            }
            return at;
        }

        static int walkedAlter(int place) {
            int at = place + 1;
            int alter = 0;
            while (at > 6) {
                at -= 7;
                alter++;
            }
            while (at < 0) {
                at += 7;
                alter--;
            }
            return alter;
        }

        static int walkedKey(int place) {
            int key = 0;
            for (int i = 0; i < Math.abs(place); i++) {
                key = (key + (place > 0 ? 7 : 5)) % 12;
            }
            return key;
        }

        static int named(int w, int key) {
            for (int place = w; place < w + 12; place++) {
                if (key(place) == key) {
                    return place;
                }
            }
            return NONE;
        }

        static int head(int signature, int letter) {
            int sharps = signature - 7;
            if (sharps > 0 && letter < sharps) {
                return 1;
            }
            return sharps < 0 && letter > 6 + sharps ? -1 : 0;
        }
    }

    /** Asked by the classes of the language itself. */
    private static class Chord {
        final Model model;
        final int number;

        Chord(Model model, int number) {
            this.model = model;
            this.number = number;
        }

        static Chord of(Model model, int number, int kind) {
            switch (kind) {
                case 1: return new Plain(model, number);
                case 2: return new Rising(model, number);
                case 3: return new Falling(model, number);
                case 4: return new Held(model, number);
                default: return new Loose(model, number);
            }
        }

        int size() {
            model.trace.add(10);
            return model.score.keys.get(number).size();
        }

        int mark() {
            model.trace.add(20);
            return number;
        }
    }

    private static class Plain extends Chord {
        Plain(Model model, int number) {
            super(model, number);
        }

        @Override int size() {
            model.trace.add(11);
            return super.size() + mark();
        }

        @Override int mark() {
            model.trace.add(21);
            return super.mark() + model.score.best().windows[number];
        }
    }

    private static final class Rising extends Plain {
        Rising(Model model, int number) {
            super(model, number);
        }

        @Override int size() {
            model.trace.add(12);
            return 0 - super.size();
        }

        @Override int mark() {
            model.trace.add(24);
            return super.mark() * 2;
        }
    }

    private static final class Falling extends Plain {
        Falling(Model model, int number) {
            super(model, number);
        }

        @Override int mark() {
            model.trace.add(22);
            return super.mark() - 1000;
        }
    }

    private static class Held extends Chord {
        Held(Model model, int number) {
            super(model, number);
        }

        @Override int size() {
            model.trace.add(13);
            return super.size() - 100;
        }

        @Override int mark() {
            model.trace.add(23);
            return super.mark() - size();
        }
    }

    private static final class Loose extends Held {
        Loose(Model model, int number) {
            super(model, number);
        }

        @Override int size() {
            model.trace.add(14);
            return super.size() * 2;
        }
    }

    private static final class Model {
        final Object[] rows = new Object[8];
        final StringBuilder tape = new StringBuilder();
        Score score = null;
        final Score[] images = new Score[2];
        final Deque<Score> past = new ArrayDeque<>();
        final List<Integer> trace = new ArrayList<>();
        int fault = 0;
        int status = 0;

        int chords() {
            return score == null ? 0 : score.kinds.size();
        }

        int notes() {
            return score == null ? 0 : score.notes();
        }

        boolean isChord(int chord) {
            return chord >= 0 && chord < chords();
        }

        static boolean within(int v, int low, int high) {
            return v >= low && v <= high;
        }

        /** What the machine itself throws is the finding here: the first in time. */
        int found(RuntimeException e) {
            if (e instanceof NullPointerException) status = 1;
            else if (e instanceof IndexOutOfBoundsException) status = 2;
            else if (e instanceof ClassCastException) status = 3;
            else if (e instanceof NegativeArraySizeException) status = 4;
            else if (e instanceof ArrayStoreException) status = 5;
            else throw e;
            return -1000010 - status;
        }

        int item(Object row, int i) {
            if (row instanceof byte[]) return ((byte[]) row)[i];
            if (row instanceof short[]) return ((short[]) row)[i];
            return ((int[]) row)[i];
        }

        int size(Object row) {
            return java.lang.reflect.Array.getLength(row);
        }

        int row(int row, int lane, int n) {
            if (!within(row, 0, 7) || !within(lane, 0, 2) || n > 40) return BAD;
            try {
                rows[row] = lane == 0 ? (Object) new byte[n] : lane == 1 ? new short[n] : new int[n];
                status = 0;
                return n;
            } catch (NegativeArraySizeException e) {
                return found(e);
            }
        }

        int set(int row, int i, int v) {
            if (!within(row, 0, 7)) return BAD;
            try {
                Object r = rows[row];
                if (r instanceof byte[]) ((byte[]) r)[i] = (byte) v;
                else if (r instanceof short[]) ((short[]) r)[i] = (short) v;
                else ((int[]) r)[i] = v;
                status = 0;
                return item(r, i);
            } catch (NullPointerException | IndexOutOfBoundsException e) {
                return found(e);
            }
        }

        int copy(int a, int i, int b, int j, int n) {
            if (!within(a, 0, 7) || !within(b, 0, 7)) return BAD;
            try {
                System.arraycopy(rows[a], i, rows[b], j, n);
                status = 0;
                return n;
            } catch (NullPointerException | IndexOutOfBoundsException | ArrayStoreException e) {
                return found(e);
            }
        }

        int drop(int row) {
            if (!within(row, 0, 7)) return BAD;
            try {
                int n = size(rows[row]);
                rows[row] = null;
                status = 0;
                return n;
            } catch (NullPointerException e) {
                return found(e);
            }
        }

        int feed(int letter) {
            if (!within(letter, 0, 255)) return BAD;
            if (tape.length() >= 130) return FULL;
            tape.append((char) letter);
            return tape.length();
        }

        int piece() {
            String text = tape.toString();
            tape.setLength(0);
            try {
                score = new Parser(text).whole();
                past.clear();
                return chords();
            } catch (Fault f) {
                fault = f.number;
                return -1000100 - f.place;
            }
        }

        void acting() {
            past.push(score.like());
            if (past.size() > 16) past.removeLast();
        }

        int key(int note, int v) {
            if (!within(note, 0, notes() - 1) || !within(v, 0, 11)) return BAD;
            int before = note(note, 0);
            if (before == v) return STATE;
            acting();
            score.setKey(note, v);
            return before;
        }

        int become(int chord, int kind) {
            if (!isChord(chord) || !within(kind, 1, 5)) return BAD;
            int before = score.kinds.get(chord);
            if (before == kind) return STATE;
            acting();
            score.kinds.set(chord, kind);
            return before;
        }

        int sign(int v) {
            if (score == null) return STATE;
            if (!within(v, 0, 14)) return BAD;
            int before = score.signature;
            if (before == v) return STATE;
            acting();
            score.signature = v;
            return before;
        }

        int shift(int t) {
            if (score == null) return STATE;
            if (!within(t, -6, 6)) return BAD;
            if (t == 0 || !within(score.signature + t, 0, 14)) return STATE;
            acting();
            score.signature += t;
            for (List<Integer> chord : score.keys) {
                chord.replaceAll(k -> (k + 7 * t + 120) % 12);
            }
            return score.signature;
        }

        int undo() {
            if (past.isEmpty()) return STATE;
            score = past.pop();
            return past.size();
        }

        int place(int p, int what) {
            if (!within(p, -15, 19) || !within(what, 0, 2)) return BAD;
            return what == 0 ? Places.letter(p) : what == 1 ? Places.alter(p) : Places.key(p);
        }

        int inWindow(int w, int key) {
            return within(w, -15, 8) && within(key, 0, 11) ? Places.named(w, key) : BAD;
        }

        int head(int letter) {
            return score != null && within(letter, 0, 6) ? Places.head(score.signature, letter) : BAD;
        }

        int note(int note, int what) {
            if (!within(note, 0, notes() - 1) || !within(what, 0, 5)) return BAD;
            int[] at = score.whereIs(note);
            if (what == 0) return score.keys.get(at[0]).get(at[1]);
            if (what == 1) return at[0];
            if (what == 5) {
                Integer sign = score.printed()[note];
                return sign == null ? NONE : sign;
            }
            int name = score.names()[note];
            return what == 2 ? name : what == 3 ? Places.letter(name) : Places.alter(name);
        }

        int chord(int chord, int what) {
            if (what == -7) return score.stays(chord) ? 1 : 0;
            if (!isChord(chord) || !within(what, 0, 5)) return BAD;
            switch (what) {
                case 0: return score.keys.get(chord).size();
                case 1: return score.keys.subList(0, chord).stream().mapToInt(List::size).sum();
                case 2: return score.best().windows[chord];
                case 3: return score.price(chord, score.best().windows[chord]);
                case 4: return score.bars.get(chord) ? 1 : 0;
                default: return score.phrases.get(chord) ? 1 : 0;
            }
        }

        int whole(int what) {
            if (score == null) return STATE;
            if (!within(what, 0, 6)) return BAD;
            if (what == 0) return score.best().cost;
            if (what == 1) return score.best().ways.min(BigInteger.valueOf(99999999)).intValue();
            if (what == 2) return score.signs();
            int[] costs = new int[what < 5 ? 15 : 24];
            for (int v = 0; v < costs.length; v++) {
                Score other = score.like();
                if (what < 5) {
                    other.signature = v;
                    costs[v] = other.best().cost;
                } else {
                    for (int c = 0; c < chords(); c++) {
                        costs[v] += score.price(c, v - 15);
                    }
                }
            }
            int least = Arrays.stream(costs).min().getAsInt();
            int first = 0;
            while (costs[first] != least) {
                first++;
            }
            return what == 4 || what == 5 ? least : what == 3 ? first : first - 15;
        }

        int price(int chord, int w) {
            return isChord(chord) && within(w, -15, 8) ? score.price(chord, w) : BAD;
        }

        int cost(int row, int i) {
            if (score == null) return STATE;
            if (!within(row, 0, 7)) return BAD;
            try {
                int[] windows = new int[chords()];
                size(rows[row]);
                if (i < 0 || (long) i + chords() > size(rows[row])) throw new IndexOutOfBoundsException();
                for (int c = 0; c < windows.length; c++) {
                    windows[c] = item(rows[row], i + c);
                }
                status = 0;
                int sum = 0;
                for (int c = 0; c < windows.length; c++) {
                    if (!within(windows[c], -15, 8)) return NONE;
                    if (score.stays(c) && windows[c] != windows[c - 1]) return NONE;
                    sum += score.price(c, windows[c]) + (c == 0 ? 0 : score.step(c, windows[c - 1], windows[c]));
                }
                return sum;
            } catch (NullPointerException | IndexOutOfBoundsException e) {
                return found(e);
            }
        }

        int fits(int chord, int row, int n, int what) {
            if (!isChord(chord) || !within(row, 0, 7) || !within(n, 1, notes()) || !within(what, 0, 2)) return BAD;
            try {
                if (n > size(rows[row])) throw new IndexOutOfBoundsException();
            } catch (NullPointerException | IndexOutOfBoundsException e) {
                return found(e);
            }
            status = 0;
            int bits = 0;
            for (int v = what == 1 ? 1 : 0; v < (what == 0 ? 15 : what == 1 ? 6 : 12); v++) {
                Score other = score.like();
                if (what == 0) other.signature = v;
                else if (what == 1) other.kinds.set(chord, v);
                else other.keys.get(chord).set(0, v);
                int[] names = other.names();
                boolean fits = true;
                for (int i = 0; i < n; i++) {
                    fits &= Places.letter(names[i]) == item(rows[row], i);
                }
                bits += fits ? 1 << v : 0;
            }
            return bits;
        }

        int drawn(int n, int seed, int what) {
            if (score == null) return STATE;
            if (!within(n, 0, 20) || !within(seed, 1, 999999) || !within(what, 0, 1)) return BAD;
            Score other = score.like();
            BigInteger x = BigInteger.valueOf(seed);
            int sum = 0;
            for (int i = 0; i < n; i++) {
                x = x.multiply(BigInteger.valueOf(16807)).mod(BigInteger.valueOf(2147483647));
                other.setKey(x.mod(BigInteger.valueOf(notes())).intValue(), x.intValueExact() / 32 % 12);
                sum += other.best().cost;
            }
            return what == 0 ? sum : other.signs();
        }

        int image(int k) {
            if (!within(k, 0, 1)) return BAD;
            if (score == null) return STATE;
            images[k] = score.like();
            return 1;
        }

        int restore(int k) {
            if (!within(k, 0, 1)) return BAD;
            if (images[k] == null) return STATE;
            score = images[k].like();
            past.clear();
            return 1;
        }

        int kind(int chord) {
            return isChord(chord) ? score.kinds.get(chord) : BAD;
        }

        int as(int chord, int kind) {
            if (!isChord(chord) || !within(kind, 0, 5)) return BAD;
            Class<?>[] classes = {Chord.class, Plain.class, Rising.class, Falling.class, Held.class, Loose.class};
            try {
                status = 0;
                return Chord.class.cast(classes[kind].cast(Chord.of(this, chord, kind(chord)))).number;
            } catch (ClassCastException e) {
                return found(e);
            }
        }

        int ask(int chord, int what) {
            if (!isChord(chord) || !within(what, 0, 1)) return BAD;
            trace.clear();
            Chord one = Chord.of(this, chord, kind(chord));
            return what == 0 ? one.size() : one.mark();
        }

        int trace(int i) {
            return i >= 0 && i < Math.min(16, trace.size()) ? trace.get(i) : NONE;
        }

        int count(int what) {
            switch (what) {
                case 0: return (int) Arrays.stream(rows).filter(r -> r != null).count();
                case 1: return chords();
                case 2: return notes();
                case 3: return score == null ? 0 : score.signature;
                case 4: return past.size();
                case 5: return tape.length();
                default: return BAD;
            }
        }
    }

    /** A piece by descent, a method for each rule of the text. */
    private static final class Parser {
        final String text;
        int at = 0;

        Parser(String text) {
            this.text = text;
        }

        char peek() {
            return at < text.length() ? text.charAt(at) : (char) 0x1000;
        }

        void take(char c) {
            if (peek() != c) {
                throw new Fault(at, 1);
            }
            at++;
        }

        int number(int low, int high) {
            int end = at;
            while (end < text.length() && "0123456789".indexOf(text.charAt(end)) >= 0) {
                end++;
            }
            if (end == at || end > at + 2) {
                throw new Fault(at, 1);
            }
            int v = Integer.parseInt(text.substring(at, end));
            if (v < low || v > high) {
                throw new Fault(at, 2);
            }
            at = end;
            return v;
        }

        Score whole() {
            Score score = new Score();
            take('k');
            score.signature = number(0, 14);
            take(';');
            chord(score, true, true);
            while (at < text.length()) {
                boolean bar = peek() == 'b';
                if (bar) {
                    at++;
                    take(';');
                }
                boolean phrase = peek() == 'f';
                if (phrase) {
                    at++;
                    take(';');
                }
                chord(score, bar, phrase);
            }
            return score;
        }

        void chord(Score score, boolean bar, boolean phrase) {
            int kind = "_crlho".indexOf(peek());
            if (kind < 1) {
                throw new Fault(at, 1);
            }
            if (score.kinds.size() == 10) {
                throw new Fault(at, 3);
            }
            at++;
            List<Integer> keys = new ArrayList<>();
            keys.add(number(0, 11));
            while (keys.size() < 4 && peek() == ',') {
                at++;
                keys.add(number(keys.get(keys.size() - 1) + 1, 11));
            }
            take(';');
            score.kinds.add(kind);
            score.bars.add(bar);
            score.phrases.add(phrase);
            score.keys.add(keys);
        }
    }
}
