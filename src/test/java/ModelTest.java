import java.math.BigInteger;
import java.util.ArrayList;
import java.util.Comparator;
import java.util.HashMap;
import java.util.HashSet;
import java.util.List;
import java.util.Map;
import java.util.Random;
import java.util.Set;
import java.util.TreeMap;

/**
 * Holds long runs of calls, made from fixed seeds, against a second program of the same document. That one is written
 * another way (trees, sets, BigInteger, exceptions), so that a slip in one of the two shows.
 */
public final class ModelTest {
    private static final int RUNS = 1000;
    private static final int CALLS = 512;
    private static final Map<String, Integer> SEEN = new TreeMap<>();
    private static int wrong = 0;

    public static void main(String[] args) {
        for (int run = 0; run < RUNS && wrong < 20; run++) {
            new Run(run).go();
        }
        mustHaveSeen("kind 0", "kind 1", "kind 2", "kind 3", "kind 4", "kind 5", "error 0", "error 1", "error 2",
                "error 3", "rightError 0", "rightError 1", "rightError 2", "rightError 3", "formula 0", "formula 1",
                "formula 2", "right differs", "slip of +", "slip of -", "slip of *", "slip of /", "slip of number",
                "slip of cell", "slip of corner", "copied 1", "world -1", "input 0", "wants 0", "give 1", "feed -1");
        System.out.println(SEEN);
        System.out.println(wrong == 0 ? "both programs answer the same" : wrong + " answers differ");
        if (wrong != 0) {
            System.exit(1);
        }
    }

    private static void saw(String what) {
        SEEN.merge(what, 1, Integer::sum);
    }

    private static void mustHaveSeen(String... whats) {
        for (String what : whats) {
            if (SEEN.getOrDefault(what, 0) < 20) {
                wrong++;
                System.out.println("the runs hardly ever meet: " + what);
            }
        }
    }

    /** One run of calls on a new object and on a new model. */
    private static final class Run {
        final int seed;
        final Random random;
        final SheetMarker marker = new SheetMarker();
        final Model model = new Model();
        // The calls keep to a corner of the sheets, so that formulas meet; at times it is the last one.
        final int span;
        final int top;
        final int left;
        final boolean lenient;
        int calls = 0;

        Run(int seed) {
            this.seed = seed;
            random = new Random(seed);
            span = 2 + random.nextInt(4);
            top = random.nextBoolean() ? 0 : 8 - span;
            left = random.nextBoolean() ? 0 : 8 - span;
            lenient = random.nextInt(3) != 0;
        }

        void go() {
            open();
            while (calls < CALLS - 8 && wrong < 20) {
                step();
            }
        }

        void due(String call, long got, long want) {
            calls++;
            if (got != want) {
                wrong++;
                System.out.println("seed " + seed + ", call " + calls + ": " + call + " answered " + got
                        + ", due is " + want);
            }
        }

        void open() {
            for (int i = random.nextInt(4); i > 0; i--) {
                int c = cell();
                due("input(" + c + ")", marker.input(c) ? 1 : 0, model.input(c) ? 1 : 0);
            }
            for (int i = 1 + random.nextInt(6); i > 0; i--) {
                wants(cell(), 1 + random.nextInt(100));
            }
            for (int i = random.nextInt(4); i > 0; i--) {
                due("world()", marker.world(), model.world());
            }
            for (int i = 0; i < 12; i++) {
                give();
            }
            for (int i = 0; i < 30; i++) {
                int s = random.nextInt(3);
                if (random.nextInt(3) == 0) {
                    number(s, cell(), number());
                } else {
                    put(s, random.nextBoolean() ? wanted() : cell());
                }
            }
        }

        void step() {
            int s = sheet();
            int c = cell();
            switch (random.nextInt(36)) {
                case 0: feedRaw(); break;
                case 1: clear(s, random.nextInt(3) == 0 ? c : -1); break;
                case 2: input(); break;
                case 3: wants(cell(), random.nextInt(103) - 1); break;
                case 4: world(); break;
                case 5: give(); break;
                case 6: case 7: number(s, c, number()); break;
                case 8: case 9: typed(s, wanted()); break;
                case 10: case 11: case 12: put(s, c); break;
                case 13: case 14: case 15: like(s, wanted()); break;
                case 16: broken(s, c); break;
                case 17: count(); break;
                case 18: case 19: look(s, c); break;
                case 20: case 21: figures(s, c); break;
                case 22: case 23: case 24: figures(s, wanted()); break;
                case 25: copied(); break;
                case 26: fault(s); break;
                case 27: total(s); break;
                default: marks(s, random.nextInt(10) == 0 ? c : wanted()); break;
            }
        }

        void feedRaw() {
            if (random.nextInt(6) != 0) {
                return;
            }
            for (int i = 0; i < 4; i++) {
                int a = random.nextInt();
                int b = random.nextInt();
                int want = model.feed(a, b, 3, -4, 5);
                saw("feed " + want);
                due("feed", marker.feed(a, b, 3, -4, 5), want);
            }
            int n = random.nextInt(64) - 2;
            due("formula n " + n, marker.formula(0, 1, n), model.formula(0, 1, n));
            due("formula", marker.formula(0, 1, 1), model.formula(0, 1, 1));
            due("count(4)", marker.count(4), model.count(4));
        }

        void clear(int s, int c) {
            due("clear(" + s + ", " + c + ")", marker.clear(s, c) ? 1 : 0, model.clear(s, c) ? 1 : 0);
        }

        void input() {
            if (random.nextInt(3) != 0) {
                return;
            }
            int c = cell();
            boolean want = model.input(c);
            saw("input " + (want ? 1 : 0));
            due("input(" + c + ")", marker.input(c) ? 1 : 0, want ? 1 : 0);
        }

        void world() {
            if (random.nextInt(2) != 0) {
                return;
            }
            int want = model.world();
            saw("world " + want);
            due("world()", marker.world(), want);
        }

        void wants(int c, int points) {
            boolean want = model.wants(c, points);
            saw("wants " + (want ? 1 : 0));
            due("wants(" + c + ", " + points + ")", marker.wants(c, points) ? 1 : 0, want ? 1 : 0);
        }

        void give() {
            int w = random.nextInt(Math.max(1, model.worlds + 1));
            int c = cell();
            for (int i = 0; i < 20 && !model.inputs.contains(c); i++) {
                c = cell();
            }
            int v = number();
            boolean want = model.give(w, c, v);
            saw("give " + (want ? 1 : 0));
            due("give(" + w + ", " + c + ", " + v + ")", marker.give(w, c, v) ? 1 : 0, want ? 1 : 0);
        }

        void number(int s, int c, int v) {
            due("number(" + s + ", " + c + ", " + v + ")", marker.number(s, c, v) ? 1 : 0,
                    model.number(s, c, v) ? 1 : 0);
        }

        void typed(int s, int c) {
            long v = model.value(0, c, random.nextInt(Math.max(1, model.worlds)));
            number(s, c, (int) Math.max(-10000, Math.min(10000, v)));
        }

        void put(int s, int c) {
            text(s, c, "=" + sum(random.nextInt(4)));
        }

        /** A pupil's formula that has to do with the task's or with another pupil's. */
        void like(int s, int c) {
            String text = Model.isCell(c) ? model.texts[random.nextInt(4) == 0 ? 1 + random.nextInt(5) : 0][c] : null;
            if (text == null) {
                put(0, c);
                return;
            }
            switch (random.nextInt(7)) {
                case 0: text(s, c, text); break;
                case 6: for (int t = 1; t < 3; t++) { text(t, c, "=0+" + text.substring(1)); } break;
                case 1: text(s, c, "=" + sum(1) + "*0+(" + text.substring(1) + ")"); break;
                case 2: text(s, c, "=0+(" + text.substring(1) + ")"); break;
                default:
                    List<Object[]> changes = Model.changes(Model.tree(text));
                    if (changes.isEmpty()) {
                        text(s, c, text);
                        return;
                    }
                    text(s, c, Model.changedText(text, changes.get(random.nextInt(changes.size()))));
                    break;
            }
        }

        void broken(int s, int c) {
            StringBuilder text = new StringBuilder("=" + sum(3));
            for (int i = 1 + random.nextInt(2); i > 0; i--) {
                int at = random.nextInt(text.length());
                String bytes = "=-(+*/SM,:)A1H8I9 0\u00ff";
                char found = bytes.charAt(random.nextInt(bytes.length()));
                switch (random.nextInt(4)) {
                    case 0: text.setCharAt(at, found); break;
                    case 1: text.insert(at, found); break;
                    case 2: text.setLength(at); text.append(found); break;
                    default: text.insert(at, "(((-M(--".substring(0, 1 + random.nextInt(8))); break;
                }
            }
            text(s, c, text.toString());
        }

        void text(int s, int c, String text) {
            String whole = text.length() > 40 ? text.substring(0, 40) : text;
            int[] words = words(whole);
            for (int i = 0; i < words.length; i += 5) {
                due("feed of " + whole, marker.feed(words[i], words[i + 1], words[i + 2], words[i + 3], words[i + 4]),
                        model.feed(words[i], words[i + 1], words[i + 2], words[i + 3], words[i + 4]));
            }
            int want = model.formula(s, c, whole.length());
            saw("formula " + want / 100);
            due("formula(" + s + ", " + c + ", " + whole + ")", marker.formula(s, c, whole.length()), want);
        }

        static int[] words(String text) {
            int[] words = new int[Math.max(1, (text.length() + 19) / 20) * 5];
            for (int i = 0; i < words.length * 4; i++) {
                words[i / 4] = words[i / 4] << 8 | (i < text.length() ? text.charAt(i) & 255 : ' ');
            }
            return words;
        }

        void count() {
            int what = random.nextBoolean() ? random.nextInt(7) - 1 : 98 + random.nextInt(68);
            due("count(" + what + ")", marker.count(what), model.count(what));
        }

        void look(int s, int c) {
            int what = random.nextBoolean() ? random.nextInt(4) - 1 : 8 + random.nextInt(44);
            due("look(" + s + ", " + c + ", " + what + ")", marker.look(s, c, what), model.look(s, c, what));
            due("look(" + s + ", " + c + ", 2)", marker.look(s, c, 2), model.look(s, c, 2));
        }

        void figures(int s, int c) {
            int w = random.nextInt(9) == 0 ? model.worlds - random.nextInt(2) * 7 : random.nextInt(model.worlds + 1);
            w = w == model.worlds && w > 0 && random.nextInt(9) != 0 ? 0 : w;
            String at = "(" + s + ", " + c + ", " + w + ")";
            long value = model.value(s, c, w);
            long right = model.right(s, c, w);
            int error = model.error(s, c, w);
            int rightError = model.rightError(s, c, w);
            saw("error " + error);
            saw("rightError " + rightError);
            if (value != right || error != rightError) {
                saw("right differs");
            }
            due("value" + at, marker.value(s, c, w), value);
            due("error" + at, marker.error(s, c, w), error);
            due("right" + at, marker.right(s, c, w), right);
            due("rightError" + at, marker.rightError(s, c, w), rightError);
        }

        void copied() {
            int s = random.nextInt(8) == 0 ? sheet() : 1;
            int t = random.nextInt(8) == 0 ? sheet() : 2;
            int i = random.nextInt(4) - 1;
            int want = model.copied(s, t, i);
            saw("copied " + (want < 0 ? 0 : 1));
            due("copied(" + s + ", " + t + ", " + i + ")", marker.copied(s, t, i), want);
        }

        void fault(int s) {
            int i = random.nextInt(5) - 1;
            due("fault(" + s + ", " + i + ")", marker.fault(s, i), model.fault(s, i));
        }

        void total(int s) {
            due("points(" + s + ", -1)", marker.points(s, -1), model.points(s, -1));
        }

        void marks(int s, int c) {
            String at = "(" + s + ", " + c + ")";
            int kind = model.kind(s, c);
            saw("kind " + kind);
            due("kind" + at, marker.kind(s, c), kind);
            due("points" + at, marker.points(s, c), model.points(s, c));
            if (kind == 4) {
                char found = model.texts[s][c].charAt(model.slip(s, c, 0));
                String text = model.texts[s][c];
                int place = model.slip(s, c, 0);
                boolean corner = text.startsWith("S(", Math.max(0, place - 2)) && place >= 2
                        || place >= 5 && text.startsWith("S(", place - 5) && text.charAt(place - 1) == ':';
                saw("slip of " + (found >= '0' && found <= '9' ? "number" : corner ? "corner"
                        : found >= 'A' ? "cell" : String.valueOf(found)));
            }
            for (int what = 0; what < 2; what++) {
                due("slip" + at + what, marker.slip(s, c, what), model.slip(s, c, what));
            }
        }

        int sheet() {
            return random.nextInt(12) == 0 ? random.nextInt(9) - 1 : random.nextInt(3);
        }

        int cell() {
            if (random.nextInt(15) == 0) {
                return random.nextInt(68) - 2;
            }
            return 8 * (top + random.nextInt(span)) + left + random.nextInt(span);
        }

        int wanted() {
            List<Integer> wanted = new ArrayList<>(model.wanted.keySet());
            return wanted.isEmpty() ? cell() : wanted.get(random.nextInt(wanted.size()));
        }

        int number() {
            switch (random.nextInt(lenient ? 8 : 3)) {
                case 0: return random.nextInt(20003) - 10001;
                case 1: return random.nextBoolean() ? 9999 : -9999;
                default: return random.nextInt(9) - 3;
            }
        }

        String sum(int depth) {
            StringBuilder text = new StringBuilder(product(depth));
            while (random.nextInt(3) == 0 && text.length() < 12) {
                text.append(random.nextBoolean() ? '+' : '-').append(product(depth));
            }
            return text.toString();
        }

        String product(int depth) {
            StringBuilder text = new StringBuilder(factor(depth));
            while (random.nextInt(lenient ? 3 : 5) < (lenient ? 1 : 4) && text.length() < (lenient ? 10 : 18)) {
                text.append(random.nextInt(lenient ? 3 : 6) == 0 ? '/' : '*').append(factor(depth));
            }
            return text.toString();
        }

        String factor(int depth) {
            int choice = random.nextInt(depth > 0 ? 10 : 5);
            switch (choice) {
                case 0: return lenient ? String.valueOf(random.nextInt(3)) : "9998";
                case 1: return lenient ? String.valueOf(random.nextInt(12)) : "9999";
                case 2: case 3: case 4: return name();
                case 5: return "-" + factor(depth - 1);
                case 6: return "(" + sum(depth - 1) + ")";
                case 7: case 8: return "S(" + name() + ":" + name() + ")";
                default: return "M(" + sum(depth - 1) + "," + sum(depth - 1) + ")";
            }
        }

        String name() {
            return "" + (char) ('A' + left + random.nextInt(span)) + (char) ('1' + top + random.nextInt(span));
        }
    }

    /** What comes out of a formula or a cell: a number, or an error thrown. */
    private static final class Failure extends RuntimeException {
        private static final long serialVersionUID = 1L;
        final int error;

        Failure(int error) {
            super(null, null, false, false);
            this.error = error;
        }
    }

    /** A part of a formula: '+' and its like, 'n' a number, 'c' a cell, 'S', 'M', '~' the minus of a factor. */
    private static final class Tree {
        char type;
        int place;
        int made;
        Tree one;
        Tree two;

        Tree(char type, int place, int made, Tree one, Tree two) {
            this.type = type;
            this.place = place;
            this.made = made;
            this.one = one;
            this.two = two;
        }

        Tree with(int at, int to) {
            Tree first = one == null ? null : one.with(at, to);
            Tree second = two == null ? null : two.with(at, to);
            if (place != at) {
                return new Tree(type, place, made, first, second);
            }
            return "+-*/".indexOf(type) >= 0 ? new Tree((char) to, place, 0, first, second)
                    : new Tree(type, place, to, first, second);
        }

        Set<Integer> named() {
            Set<Integer> all = new HashSet<>();
            if (type == 'c') {
                all.add(made);
            } else if (type == 'S') {
                all.addAll(rectangle());
            } else {
                if (one != null) {
                    all.addAll(one.named());
                }
                if (two != null) {
                    all.addAll(two.named());
                }
            }
            return all;
        }

        List<Integer> rectangle() {
            List<Integer> all = new ArrayList<>();
            for (int c = 0; c < 64; c++) {
                boolean row = between(c / 8, one.made / 8, two.made / 8);
                if (row && between(c % 8, one.made % 8, two.made % 8)) {
                    all.add(c);
                }
            }
            return all;
        }

        static boolean between(int x, int a, int b) {
            return x >= Math.min(a, b) && x <= Math.max(a, b);
        }
    }

    private interface Cells {
        BigInteger of(int cell);
    }

    private static final class Model {
        static final BigInteger TOP = BigInteger.TEN.pow(12);
        final List<Integer> tape = new ArrayList<>();
        final Integer[][] numbers = new Integer[6][64];
        final String[][] texts = new String[6][64];
        final Set<Integer> inputs = new HashSet<>();
        final TreeMap<Integer, Integer> wanted = new TreeMap<>();
        final Map<String, Integer> gifts = new HashMap<>();
        int worlds = 0;

        static boolean isCell(int c) {
            return c >= 0 && c < 64;
        }

        static boolean isSheet(int s) {
            return s >= 0 && s < 6;
        }

        int feed(int a, int b, int c, int d, int e) {
            if (tape.size() > 40) {
                return -1;
            }
            for (int word : new int[] {a, b, c, d, e}) {
                tape.add(word >>> 24);
                tape.add(word >>> 16 & 255);
                tape.add(word >>> 8 & 255);
                tape.add(word & 255);
            }
            return tape.size();
        }

        boolean number(int s, int c, int v) {
            if (!isSheet(s) || !isCell(c) || Math.abs((long) v) > 9999) {
                return false;
            }
            numbers[s][c] = v;
            texts[s][c] = null;
            return true;
        }

        int formula(int s, int c, int n) {
            if (!isSheet(s) || !isCell(c) || n < 0 || n > 40 || n > tape.size()) {
                return -1;
            }
            StringBuilder text = new StringBuilder();
            for (int i = 0; i < n; i++) {
                text.append((char) (int) tape.get(i));
            }
            tape.clear();
            int fault = faultOf(text.toString());
            if (fault == 0) {
                texts[s][c] = text.toString();
                numbers[s][c] = null;
            }
            return fault;
        }

        boolean clear(int s, int c) {
            if (!isSheet(s) || !isCell(c) || (texts[s][c] == null && numbers[s][c] == null)) {
                return false;
            }
            texts[s][c] = null;
            numbers[s][c] = null;
            return true;
        }

        boolean input(int c) {
            return isCell(c) && !wanted.containsKey(c) && inputs.size() < 8 && inputs.add(c);
        }

        boolean wants(int c, int points) {
            if (!isCell(c) || points < 1 || points > 100 || inputs.contains(c)
                    || (!wanted.containsKey(c) && wanted.size() == 16)) {
                return false;
            }
            wanted.put(c, points);
            return true;
        }

        int world() {
            return worlds == 6 ? -1 : worlds++;
        }

        boolean give(int w, int c, int v) {
            if (w < 0 || w >= worlds || !inputs.contains(c) || Math.abs((long) v) > 9999) {
                return false;
            }
            gifts.put(w + ":" + c, v);
            return true;
        }

        // ---- formulas

        /** A machine with a stack of what is open, instead of a parser of the grammar. */
        static int faultOf(String text) {
            List<Character> open = new ArrayList<>();
            boolean due = true;
            int at = 0;
            if (text.isEmpty() || text.charAt(0) != '=') {
                return 100;
            }
            at++;
            while (true) {
                char found = at < text.length() ? text.charAt(at) : 0;
                if (due) {
                    if ("-(SM".indexOf(found) >= 0 && found != 0 && open.size() == 6) {
                        return 200 + at;
                    }
                    if (found == '-' || found == '(') {
                        open.add(found);
                        at++;
                        continue;
                    }
                    String pattern = found == 'M' ? "M(" : found == 'S' ? "S(@#:@#)"
                            : found >= '0' && found <= '9' ? "0" : "@#";
                    for (int i = 0; i < pattern.length(); i++, at++) {
                        if (!fits(at < text.length() ? text.charAt(at) : 0, pattern.charAt(i))) {
                            return 100 + at;
                        }
                    }
                    if (found == 'M') {
                        open.add('M');
                        continue;
                    }
                    for (int i = 1; i < 4 && pattern.equals("0") && at < text.length()
                            && Character.isDigit(text.charAt(at)); i++) {
                        at++;
                    }
                    due = false;
                } else {
                    char top = open.isEmpty() ? 0 : open.get(open.size() - 1);
                    if (at == text.length()) {
                        return open.isEmpty() ? 0 : 100 + at;
                    } else if ("+-*/".indexOf(found) >= 0) {
                        due = true;
                    } else if (found == ',' && top == 'M') {
                        open.set(open.size() - 1, 'N');
                        due = true;
                    } else if (found == ')' && (top == '(' || top == 'N')) {
                        open.remove(open.size() - 1);
                    } else {
                        return 100 + at;
                    }
                    at++;
                }
                while (!due && !open.isEmpty() && open.get(open.size() - 1) == '-') {
                    open.remove(open.size() - 1);
                }
            }
        }

        static boolean fits(char found, char pattern) {
            switch (pattern) {
                case '@': return found >= 'A' && found <= 'H';
                case '#': return found >= '1' && found <= '8';
                case '0': return found >= '0' && found <= '9';
                default: return found == pattern;
            }
        }

        static Tree tree(String text) {
            return part(text, 1, text.length());
        }

        /** Cuts at the last sign that binds least, instead of reading on from the left. */
        static Tree part(String text, int from, int to) {
            for (String signs : new String[] {"+-", "*/"}) {
                int depth = 0;
                for (int i = to - 1; i > from; i--) {
                    char found = text.charAt(i);
                    char before = text.charAt(i - 1);
                    depth += found == ')' ? 1 : found == '(' ? -1 : 0;
                    if (depth == 0 && signs.indexOf(found) >= 0 && (Character.isDigit(before) || before == ')')) {
                        return new Tree(found, i, 0, part(text, from, i), part(text, i + 1, to));
                    }
                }
            }
            char first = text.charAt(from);
            if (first == '-') {
                return new Tree('~', from, 0, part(text, from + 1, to), null);
            } else if (first == '(') {
                return part(text, from + 1, to - 1);
            } else if (first == 'S') {
                return new Tree('S', from, 0, part(text, from + 2, from + 4), part(text, from + 5, from + 7));
            } else if (first == 'M') {
                int depth = 0;
                int comma = from + 2;
                while (depth != 0 || text.charAt(comma) != ',') {
                    depth += text.charAt(comma) == ')' ? -1 : text.charAt(comma) == '(' ? 1 : 0;
                    comma++;
                }
                return new Tree('M', from, 0, part(text, from + 2, comma), part(text, comma + 1, to - 1));
            } else if (Character.isDigit(first)) {
                return new Tree('n', from, Integer.parseInt(text.substring(from, to)), null, null);
            }
            return new Tree('c', from, 8 * (text.charAt(from + 1) - '1') + first - 'A', null, null);
        }

        static BigInteger reckon(Tree tree, Cells cells) {
            if (tree.type == 'n') {
                return BigInteger.valueOf(tree.made);
            } else if (tree.type == 'c') {
                return cells.of(tree.made);
            } else if (tree.type == '~') {
                return bounded(reckon(tree.one, cells).negate());
            } else if (tree.type == 'S') {
                BigInteger sum = BigInteger.ZERO;
                for (int c : tree.rectangle()) {
                    sum = bounded(sum.add(cells.of(c)));
                }
                return sum;
            }
            BigInteger a = reckon(tree.one, cells);
            BigInteger b = reckon(tree.two, cells);
            switch (tree.type) {
                case '+': return bounded(a.add(b));
                case '-': return bounded(a.subtract(b));
                case '*': return bounded(a.multiply(b));
                case 'M': return a.max(b);
                default: return bounded(quotient(a, b));
            }
        }

        static BigInteger quotient(BigInteger a, BigInteger b) {
            if (b.signum() == 0) {
                throw new Failure(2);
            }
            BigInteger[] both = a.divideAndRemainder(b);
            return both[1].signum() * b.signum() < 0 ? both[0].subtract(BigInteger.ONE) : both[0];
        }

        static BigInteger bounded(BigInteger found) {
            if (found.abs().compareTo(TOP) > 0) {
                throw new Failure(3);
            }
            return found;
        }

        // ---- cells

        /** What a cell needs; stops are cells from which needing does not go on. */
        Set<Integer> needs(int s, int c, Set<Integer> stops) {
            return texts[s][c] == null || inputs.contains(c) || stops.contains(c) ? Set.of() : tree(texts[s][c]).named();
        }

        Set<Integer> comesTo(int s, Set<Integer> first, Set<Integer> stops) {
            Set<Integer> all = new HashSet<>();
            List<Integer> left = new ArrayList<>(first);
            while (!left.isEmpty()) {
                int c = left.remove(left.size() - 1);
                if (all.add(c)) {
                    left.addAll(needs(s, c, stops));
                }
            }
            return all;
        }

        BigInteger own(int s, int c, int w, Map<Integer, Object> memo) {
            return cell(s, c, w, Set.of(), null, c, memo);
        }

        /** The cell, with another formula for the subject if changed is not null. */
        BigInteger cell(int s, int c, int w, Set<Integer> stops, Tree changed, int subject, Map<Integer, Object> memo) {
            if (!memo.containsKey(c)) {
                Object found;
                try {
                    found = anew(s, c, w, stops, changed, subject, memo);
                } catch (Failure failure) {
                    found = failure;
                }
                memo.put(c, found);
            }
            if (memo.get(c) instanceof Failure) {
                throw (Failure) memo.get(c);
            }
            return (BigInteger) memo.get(c);
        }

        BigInteger anew(int s, int c, int w, Set<Integer> stops, Tree changed, int subject, Map<Integer, Object> memo) {
            if (inputs.contains(c)) {
                return BigInteger.valueOf(gifts.getOrDefault(w + ":" + c, 0));
            } else if (stops.contains(c)) {
                return own(0, c, w, new HashMap<>());
            } else if (texts[s][c] == null) {
                return BigInteger.valueOf(numbers[s][c] == null ? 0 : numbers[s][c]);
            }
            Tree tree = changed != null && c == subject ? changed : tree(texts[s][c]);
            String kept = texts[s][c];
            for (int x : comesTo(s, tree.named(), stops)) {
                Set<Integer> from = changed != null && x == subject ? changed.named() : needs(s, x, stops);
                Set<Integer> on = comesTo(s, from, stops);
                if (changed != null && on.contains(subject)) {
                    on.addAll(comesTo(s, changed.named(), stops));
                }
                if (on.contains(x)) {
                    throw new Failure(1);
                }
            }
            if (!kept.equals(texts[s][c])) {
                throw new IllegalStateException();
            }
            return reckon(tree, x -> cell(s, x, w, stops, changed, subject, memo));
        }

        Set<Integer> others(int c) {
            Set<Integer> stops = new HashSet<>(wanted.keySet());
            stops.remove(c);
            return stops;
        }

        /** A number, or minus the error in a text, so that both can be compared. */
        static String told(java.util.function.Supplier<BigInteger> found) {
            try {
                return found.get().toString();
            } catch (Failure failure) {
                return "error " + failure.error;
            }
        }

        String ownTold(int s, int c, int w) {
            return told(() -> own(s, c, w, new HashMap<>()));
        }

        String rightTold(int s, int c, int w, Tree changed) {
            return told(() -> cell(s, c, w, others(c), changed, c, new HashMap<>()));
        }

        boolean isPlace(int s, int c, int w) {
            return isSheet(s) && isCell(c) && w >= 0 && w < worlds;
        }

        static long figure(String told) {
            return told.startsWith("error") ? 0 : Long.parseLong(told);
        }

        static int error(String told) {
            return told.startsWith("error") ? told.charAt(6) - '0' : 0;
        }

        long value(int s, int c, int w) {
            return isPlace(s, c, w) ? figure(ownTold(s, c, w)) : -1;
        }

        int error(int s, int c, int w) {
            return isPlace(s, c, w) ? error(ownTold(s, c, w)) : -1;
        }

        long right(int s, int c, int w) {
            return isPlace(s, c, w) ? figure(rightTold(s, c, w, null)) : -1;
        }

        int rightError(int s, int c, int w) {
            return isPlace(s, c, w) ? error(rightTold(s, c, w, null)) : -1;
        }

        // ---- marks

        /** All changes of a formula, in their order: place, what is made, what it was. */
        static List<Object[]> changes(Tree tree) {
            List<Object[]> all = new ArrayList<>();
            gather(tree, all);
            all.sort(Comparator.comparingInt(change -> (Integer) change[0]));
            return all;
        }

        static void gather(Tree tree, List<Object[]> all) {
            if (tree == null) {
                return;
            }
            if ("+-*/".indexOf(tree.type) >= 0) {
                for (char sign : "+-*/".toCharArray()) {
                    if (sign != tree.type) {
                        all.add(new Object[] {tree.place, (int) sign, tree.type});
                    }
                }
            } else if (tree.type == 'n') {
                all.add(new Object[] {tree.place, tree.made + 1, 'n'});
                all.add(new Object[] {tree.place, tree.made - 1, 'n'});
            } else if (tree.type == 'c') {
                int[][] moves = {{-1, 0}, {1, 0}, {0, -1}, {0, 1}};
                for (int[] move : moves) {
                    int row = tree.made / 8 + move[0];
                    int column = tree.made % 8 + move[1];
                    if (row >= 0 && row < 8 && column >= 0 && column < 8) {
                        all.add(new Object[] {tree.place, 8 * row + column, 'c'});
                    }
                }
            }
            gather(tree.one, all);
            gather(tree.two, all);
        }

        /** The text with the change written in (a sign may then bind otherwise; good enough to make runs). */
        static String changedText(String text, Object[] change) {
            int place = (Integer) change[0];
            int made = (Integer) change[1];
            int end = place + 1;
            String put = String.valueOf((char) made);
            if ((Character) change[2] == 'n') {
                while (end < text.length() && Character.isDigit(text.charAt(end))) {
                    end++;
                }
                put = made < 0 ? "(0-1)" : String.valueOf(made);
            } else if ((Character) change[2] == 'c') {
                end++;
                put = "" + (char) ('A' + made % 8) + (char) ('1' + made / 8);
            }
            return text.substring(0, place) + put + text.substring(end);
        }

        boolean alike(java.util.function.IntFunction<String> found, int c) {
            for (int w = 0; w < worlds; w++) {
                if (!found.apply(w).equals(ownTold(0, c, w))) {
                    return false;
                }
            }
            return true;
        }

        Object[] firstSlip(int s, int c) {
            Tree tree = tree(texts[s][c]);
            for (Object[] change : changes(tree)) {
                Tree changed = tree.with((Integer) change[0], (Integer) change[1]);
                if (alike(w -> rightTold(s, c, w, changed), c)) {
                    return change;
                }
            }
            return null;
        }

        int kind(int s, int c) {
            if (!isSheet(s) || s == 0 || !wanted.containsKey(c)) {
                return -1;
            }
            if (numbers[s][c] != null) {
                for (int w = 0; w < worlds; w++) {
                    if (ownTold(0, c, w).equals(numbers[s][c].toString())) {
                        return 2;
                    }
                }
                return 5;
            }
            if (texts[s][c] == null) {
                return 0;
            }
            if (alike(w -> ownTold(s, c, w), c)) {
                return 1;
            }
            return alike(w -> rightTold(s, c, w, null), c) ? 3 : firstSlip(s, c) != null ? 4 : 5;
        }

        int points(int s, int c) {
            if (!isSheet(s) || s == 0) {
                return -1;
            }
            if (c == -1) {
                return wanted.keySet().stream().mapToInt(cell -> points(s, cell)).sum();
            }
            int[] parts = {0, 4, 1, 4, 2, 0};
            return wanted.containsKey(c) ? wanted.get(c) * parts[kind(s, c)] / 4 : -1;
        }

        int slip(int s, int c, int what) {
            return kind(s, c) == 4 && (what == 0 || what == 1) ? (Integer) firstSlip(s, c)[what] : -1;
        }

        int fault(int s, int i) {
            if (!isSheet(s) || s == 0) {
                return -1;
            }
            List<Integer> all = new ArrayList<>();
            for (int c : wanted.keySet()) {
                if (kind(s, c) != 1 && kind(s, c) != 3) {
                    all.add(c);
                }
            }
            return i >= 0 && i < all.size() ? all.get(i) : -1;
        }

        int copied(int s, int t, int i) {
            if (!isSheet(s) || !isSheet(t) || s == 0 || t == 0 || s == t) {
                return -1;
            }
            List<Integer> all = new ArrayList<>();
            for (int c = 0; c < 64; c++) {
                String text = texts[s][c];
                if (!inputs.contains(c) && text != null && text.equals(texts[t][c]) && !text.equals(texts[0][c])) {
                    all.add(c);
                }
            }
            return i >= 0 && i < all.size() ? all.get(i) : -1;
        }

        int look(int s, int c, int what) {
            if (!isSheet(s) || !isCell(c)) {
                return -1;
            }
            String text = texts[s][c];
            if (what == 0) {
                return text != null ? 2 : numbers[s][c] != null ? 1 : 0;
            } else if (what == 1) {
                return text != null ? text.length() : numbers[s][c] != null ? numbers[s][c] : 0;
            } else if (what == 2) {
                int coming = 0;
                for (int x = 0; x < 64; x++) {
                    coming += comesTo(s, needs(s, x, Set.of()), Set.of()).contains(c) ? 1 : 0;
                }
                return coming;
            }
            return text != null && what >= 10 && what - 10 < text.length() ? text.charAt(what - 10) : -1;
        }

        int count(int what) {
            switch (what) {
                case 0: return inputs.size();
                case 1: return wanted.size();
                case 2: return worlds;
                case 3: return wanted.values().stream().mapToInt(x -> x).sum();
                case 4: return tape.size();
                default: return what >= 100 && what < 164 ? wanted.getOrDefault(what - 100, 0) : -1;
            }
        }
    }
}
