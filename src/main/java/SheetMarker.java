/** Marks pupils' worksheets against a task, cell by cell, by what the cells do in several worlds of inputs. */
public final class SheetMarker {
    public static final int NONE = -1;

    private static final int SHEETS = 6;
    private static final int TASK = 0;
    private static final int SIDE = 8;
    private static final int CELLS = 64;
    private static final int WORLDS = 6;
    private static final int MOST_INPUTS = 8;
    private static final int MOST_WANTED = 16;
    private static final int MOST_POINTS = 100;
    private static final int MOST_NUMBER = 9999;
    private static final int MOST_DIGITS = 4;
    private static final int MOST_OPEN = 6;
    private static final int TEXT_BYTES = 40;
    private static final int TAPE_BYTES = 60;
    private static final int FEED_BYTES = 20;
    private static final long GREATEST = 1000000000000L;

    private static final int HOLDS_NOTHING = 0;
    private static final int HOLDS_NUMBER = 1;
    private static final int HOLDS_FORMULA = 2;

    private static final int NO_ERROR = 0;
    private static final int CIRCLE = 1;
    private static final int BY_ZERO = 2;
    private static final int GREAT = 3;

    private static final int KIND_EMPTY = 0;
    private static final int KIND_RIGHT = 1;
    private static final int KIND_TYPED = 2;
    private static final int KIND_CARRIED = 3;
    private static final int KIND_SLIP = 4;
    private static final int KIND_WRONG = 5;

    private static final int NO_FAULT = 0;
    private static final int FAULT_WEIGHT = 100;
    private static final int MISPLACED = 1;
    private static final int TOO_DEEP = 2;

    // A sign between two is a step of its own: its byte, which is none of these.
    private static final int NO_STEP = 0;
    private static final int STEP_NUMBER = 1;
    private static final int STEP_CELL = 2;
    private static final int STEP_CORNER = 3;
    private static final int STEP_NEGATE = 4;
    private static final int STEP_RECTANGLE = 5;
    private static final int STEP_GREATER = 6;

    // In the order in which a sign is changed into the others.
    private static final char[] SIGNS = {'+', '-', '*', '/'};
    private static final int MOST_OPTIONS = 4;
    // NONE can't say this: a number 0 can be changed to -1.
    private static final int NO_OPTION = -2;

    private static final int LOOK_HOLDS = 0;
    private static final int LOOK_SIZE = 1;
    private static final int LOOK_COMING = 2;
    private static final int LOOK_BYTES = 10;
    private static final int COUNT_CELLS = 100;

    private final Tape tape;
    private final Lesson lesson;
    private final Sheet[] sheets;
    private final Figures task;
    private final Figures own;
    private final Figures right;
    private final Judge judge;

    public SheetMarker() {
        tape = new Tape();
        lesson = new Lesson();
        sheets = new Sheet[SHEETS];
        for (int s = 0; s < SHEETS; s++) {
            sheets[s] = new Sheet();
        }
        Machine machine = new Machine();
        task = new Figures(lesson, machine);
        own = new Figures(lesson, machine);
        right = new Figures(lesson, machine);
        judge = new Judge(lesson, machine, task, own, right);
    }

    public int feed(int a, int b, int c, int d, int e) {
        if (!tape.hasRoom()) {
            return NONE;
        }
        tape.append(a);
        tape.append(b);
        tape.append(c);
        tape.append(d);
        tape.append(e);
        return tape.length();
    }

    public boolean number(int s, int c, int v) {
        Sheet sheet = sheetAt(s);
        if (sheet == null || !isCell(c) || !isNumber(v)) {
            return false;
        }
        sheet.putNumber(c, v);
        return true;
    }

    public int formula(int s, int c, int n) {
        Sheet sheet = sheetAt(s);
        if (sheet == null || !isCell(c) || n < 0 || n > TEXT_BYTES || n > tape.length()) {
            return NONE;
        }
        Formula read = new Formula(n);
        tape.moveTo(read);
        int fault = new Parser(read).parse();
        if (fault == NO_FAULT) {
            sheet.putFormula(c, read);
        }
        return fault;
    }

    public boolean clear(int s, int c) {
        Sheet sheet = sheetAt(s);
        if (sheet == null || sheet.heldAt(c) == HOLDS_NOTHING) {
            return false;
        }
        sheet.empty(c);
        return true;
    }

    public boolean input(int c) {
        if (!isCell(c) || lesson.isInput(c) || lesson.isWanted(c) || lesson.countInputs() >= MOST_INPUTS) {
            return false;
        }
        lesson.addInput(c);
        return true;
    }

    public boolean wants(int c, int points) {
        if (!isCell(c) || points < 1 || points > MOST_POINTS || lesson.isInput(c)) {
            return false;
        }
        if (!lesson.isWanted(c) && lesson.countWanted() >= MOST_WANTED) {
            return false;
        }
        lesson.want(c, points);
        return true;
    }

    public int world() {
        return lesson.countWorlds() < WORLDS ? lesson.addWorld() : NONE;
    }

    public boolean give(int w, int c, int v) {
        if (!lesson.isWorld(w) || !lesson.isInput(c) || !isNumber(v)) {
            return false;
        }
        lesson.put(w, c, v);
        return true;
    }

    public long value(int s, int c, int w) {
        return reckonsOwn(s, c, w) ? own.figureAt(w, c) : NONE;
    }

    public int error(int s, int c, int w) {
        return reckonsOwn(s, c, w) ? own.errorAt(w, c) : NONE;
    }

    public long right(int s, int c, int w) {
        return reckonsRight(s, c, w) ? right.figureAt(w, c) : NONE;
    }

    public int rightError(int s, int c, int w) {
        return reckonsRight(s, c, w) ? right.errorAt(w, c) : NONE;
    }

    public int kind(int s, int c) {
        Sheet sheet = pupilAt(s);
        if (sheet == null || !lesson.isWanted(c)) {
            return NONE;
        }
        judge.open(sheetAt(TASK), sheet);
        return judge.judge(sheet, c);
    }

    public int points(int s, int c) {
        Sheet sheet = pupilAt(s);
        if (sheet == null || (c != NONE && !lesson.isWanted(c))) {
            return NONE;
        }
        judge.open(sheetAt(TASK), sheet);
        int sum = 0;
        for (int cell = 0; cell < CELLS; cell++) {
            if (lesson.isWanted(cell) && (c == NONE || c == cell)) {
                sum += share(judge.judge(sheet, cell), lesson.worth(cell));
            }
        }
        return sum;
    }

    public int slip(int s, int c, int what) {
        Sheet sheet = pupilAt(s);
        if (sheet == null || !lesson.isWanted(c) || what < 0 || what > 1) {
            return NONE;
        }
        judge.open(sheetAt(TASK), sheet);
        if (judge.judge(sheet, c) != KIND_SLIP) {
            return NONE;
        }
        return what == 0 ? judge.slipPlace() : judge.slipMade();
    }

    public int fault(int s, int i) {
        Sheet sheet = pupilAt(s);
        if (sheet == null || i < 0) {
            return NONE;
        }
        judge.open(sheetAt(TASK), sheet);
        int before = 0;
        for (int cell = 0; cell < CELLS; cell++) {
            if (lesson.isWanted(cell) && isFaulty(judge.judge(sheet, cell))) {
                if (before == i) {
                    return cell;
                }
                before++;
            }
        }
        return NONE;
    }

    public int copied(int s, int t, int i) {
        Sheet one = pupilAt(s);
        Sheet other = pupilAt(t);
        if (one == null || other == null || s == t || i < 0) {
            return NONE;
        }
        int before = 0;
        for (int cell = 0; cell < CELLS; cell++) {
            if (!lesson.isInput(cell) && isShared(one, other, cell)) {
                if (before == i) {
                    return cell;
                }
                before++;
            }
        }
        return NONE;
    }

    public int look(int s, int c, int what) {
        Sheet sheet = sheetAt(s);
        if (sheet == null || !isCell(c)) {
            return NONE;
        }
        if (what == LOOK_HOLDS) {
            return sheet.heldAt(c);
        }
        if (what == LOOK_COMING) {
            return countComing(sheet, c);
        }
        Formula formula = sheet.formulaAt(c);
        if (what == LOOK_SIZE) {
            return formula != null ? formula.length() : sheet.numberAt(c);
        }
        return formula != null && what >= LOOK_BYTES ? formula.byteAt(what - LOOK_BYTES) : NONE;
    }

    public int count(int what) {
        if (what >= COUNT_CELLS && what < COUNT_CELLS + CELLS) {
            return lesson.worth(what - COUNT_CELLS);
        }
        switch (what) {
            case 0: return lesson.countInputs();
            case 1: return lesson.countWanted();
            case 2: return lesson.countWorlds();
            case 3: return lesson.worthOfAll();
            case 4: return tape.length();
            default: return NONE;
        }
    }

    private Sheet sheetAt(int s) {
        return s >= 0 && s < sheets.length ? sheets[s] : null;
    }

    private Sheet pupilAt(int s) {
        return s == TASK ? null : sheetAt(s);
    }

    private boolean reckonsOwn(int s, int c, int w) {
        Sheet sheet = sheetAt(s);
        if (sheet == null || !isCell(c) || !lesson.isWorld(w)) {
            return false;
        }
        own.reckonOwn(sheet);
        return true;
    }

    private boolean reckonsRight(int s, int c, int w) {
        Sheet sheet = sheetAt(s);
        Sheet tasks = sheetAt(TASK);
        if (sheet == null || tasks == null || !isCell(c) || !lesson.isWorld(w)) {
            return false;
        }
        task.reckonOwn(tasks);
        right.reckonRight(sheet, c, task);
        return true;
    }

    private boolean isShared(Sheet one, Sheet other, int cell) {
        Sheet tasks = sheetAt(TASK);
        Formula formula = one.formulaAt(cell);
        if (tasks == null || formula == null || !formula.hasTextOf(other.formulaAt(cell))) {
            return false;
        }
        return !formula.hasTextOf(tasks.formulaAt(cell));
    }

    /** How many cells of the sheet come to this one by needing. */
    private int countComing(Sheet sheet, int goal) {
        long coming = 0;
        for (int round = 0; round < CELLS; round++) {
            long before = coming;
            for (int cell = 0; cell < CELLS; cell++) {
                if (!lesson.isInput(cell) && (sheet.needsAt(cell) & (coming | bit(goal))) != 0) {
                    coming |= bit(cell);
                }
            }
            if (coming == before) {
                break;
            }
        }
        return Long.bitCount(coming);
    }

    private static int share(int kind, int worth) {
        switch (kind) {
            case KIND_RIGHT: case KIND_CARRIED: return worth;
            case KIND_SLIP: return worth / 2;
            case KIND_TYPED: return worth / 4;
            default: return 0;
        }
    }

    private static boolean isFaulty(int kind) {
        return kind != KIND_RIGHT && kind != KIND_CARRIED;
    }

    private static boolean isCell(int c) {
        return c >= 0 && c < CELLS;
    }

    private static boolean isNumber(int v) {
        return v >= -MOST_NUMBER && v <= MOST_NUMBER;
    }

    private static boolean isSign(int step) {
        return step == '+' || step == '-' || step == '*' || step == '/';
    }

    private static long bit(int cell) {
        return cell >= 0 && cell < CELLS ? 1L << cell : 0;
    }

    /** The cells of the rectangle between two corners, a bit each. */
    private static long rectangle(int corner, int opposite) {
        int left = Math.min(corner % SIDE, opposite % SIDE);
        int right = Math.max(corner % SIDE, opposite % SIDE);
        int top = Math.min(corner / SIDE, opposite / SIDE);
        int bottom = Math.max(corner / SIDE, opposite / SIDE);
        long columns = (1L << (right + 1)) - (1L << left);
        long cells = 0;
        for (int row = top; row <= bottom; row++) {
            cells |= columns << (SIDE * row);
        }
        return cells;
    }

    /** The bytes that were fed and not yet taken. */
    private static final class Tape {
        private final int[] bytes;
        private int length;

        Tape() {
            bytes = new int[TAPE_BYTES];
        }

        int length() {
            return length;
        }

        boolean hasRoom() {
            return length + FEED_BYTES <= TAPE_BYTES;
        }

        void append(int word) {
            for (int shift = 24; shift >= 0; shift -= 8) {
                if (length >= 0 && length < bytes.length) {
                    bytes[length] = (word >>> shift) & 255;
                    length++;
                }
            }
        }

        /** Fills the formula's text; what is left behind it on the tape goes, too. */
        void moveTo(Formula formula) {
            for (int place = 0; place < length && place < bytes.length; place++) {
                formula.putByte(place, bytes[place]);
            }
            length = 0;
        }
    }

    /**
     * A formula's text, and its steps: each begins at a place of its own in the text, and the places stand in the
     * order of reckoning, both sides ahead of what joins them. So a change of a sign leaves what binds as it was read.
     */
    private static final class Formula {
        private final int[] text;
        private final int[] steps;
        private final int[] operands;
        private final int[] order;
        private int size;

        Formula(int length) {
            int bytes = Math.max(length, 0);
            text = new int[bytes];
            steps = new int[bytes];
            operands = new int[bytes];
            order = new int[bytes];
        }

        int length() {
            return text.length;
        }

        int byteAt(int place) {
            return place >= 0 && place < text.length ? text[place] : NONE;
        }

        void putByte(int place, int value) {
            if (place >= 0 && place < text.length) {
                text[place] = value;
            }
        }

        boolean hasTextOf(Formula other) {
            if (other == null || other.length() != text.length) {
                return false;
            }
            for (int place = 0; place < text.length; place++) {
                if (text[place] != other.byteAt(place)) {
                    return false;
                }
            }
            return true;
        }

        void addStep(int place, int step, int operand) {
            if (place >= 0 && place < steps.length && place < operands.length && size >= 0 && size < order.length) {
                steps[place] = step;
                operands[place] = operand;
                order[size] = place;
                size++;
            }
        }

        int countSteps() {
            return size;
        }

        int placeOf(int i) {
            return i >= 0 && i < size && i < order.length ? order[i] : NONE;
        }

        int stepAt(int place) {
            return place >= 0 && place < steps.length ? steps[place] : NO_STEP;
        }

        int operandAt(int place) {
            return place >= 0 && place < operands.length ? operands[place] : 0;
        }

        /** The cells that are named, a bit each. */
        long needs(Change change) {
            long cells = 0;
            int corner = 0;
            int opposite = 0;
            for (int i = 0; i < size; i++) {
                int place = placeOf(i);
                switch (stepAt(place)) {
                    case STEP_CELL:
                        cells |= bit(change.operandOf(this, place));
                        break;
                    case STEP_CORNER:
                        corner = opposite;
                        opposite = change.operandOf(this, place);
                        break;
                    case STEP_RECTANGLE:
                        cells |= rectangle(corner, opposite);
                        break;
                    default:
                        break;
                }
            }
            return cells;
        }
    }

    /** At most one place of a formula that is taken for another sign, number or cell. */
    private static final class Change {
        private int place;
        private int made;

        Change() {
            place = NONE;
        }

        void set(int newPlace, int newMade) {
            place = newPlace;
            made = newMade;
        }

        int stepOf(Formula formula, int at) {
            int step = formula.stepAt(at);
            return at == place && isSign(step) ? made : step;
        }

        int operandOf(Formula formula, int at) {
            return at == place ? made : formula.operandAt(at);
        }
    }

    /** Reads a formula's text into its steps, up to the first fault. */
    private static final class Parser {
        private final Formula formula;
        private int at;
        private int fault;

        Parser(Formula formula) {
            this.formula = formula;
        }

        int parse() {
            pass('=');
            readSum(0);
            if (at < formula.length()) {
                fail(MISPLACED);
            }
            return fault;
        }

        /** The byte to be read; NONE at the end and behind a fault, so that nothing more is read then. */
        private int next() {
            return fault == NO_FAULT ? formula.byteAt(at) : NONE;
        }

        private void fail(int reason) {
            if (fault == NO_FAULT) {
                fault = FAULT_WEIGHT * reason + at;
            }
        }

        private void pass(int due) {
            passWithin(due, due);
        }

        private int passWithin(int low, int high) {
            int found = next();
            if (found < low || found > high) {
                fail(MISPLACED);
                return low;
            }
            at++;
            return found;
        }

        private void readSum(int open) {
            readProduct(open);
            for (int i = 0; i < TEXT_BYTES && (next() == '+' || next() == '-'); i++) {
                int place = at;
                int sign = next();
                at++;
                readProduct(open);
                formula.addStep(place, sign, 0);
            }
        }

        private void readProduct(int open) {
            readFactor(open);
            for (int i = 0; i < TEXT_BYTES && (next() == '*' || next() == '/'); i++) {
                int place = at;
                int sign = next();
                at++;
                readFactor(open);
                formula.addStep(place, sign, 0);
            }
        }

        private void readFactor(int open) {
            int first = next();
            if (open >= MOST_OPEN && (first == '-' || first == '(' || first == 'S' || first == 'M')) {
                fail(TOO_DEEP);
            } else if (first == '-') {
                readNegative(open + 1);
            } else if (first == '(') {
                pass('(');
                readSum(open + 1);
                pass(')');
            } else if (first == 'S') {
                readRectangle();
            } else if (first == 'M') {
                readGreater(open + 1);
            } else if (isDigit(first)) {
                readNumber();
            } else {
                readCell(STEP_CELL);
            }
        }

        private void readNegative(int open) {
            int place = at;
            pass('-');
            readFactor(open);
            formula.addStep(place, STEP_NEGATE, 0);
        }

        private void readGreater(int open) {
            int place = at;
            pass('M');
            pass('(');
            readSum(open);
            pass(',');
            readSum(open);
            pass(')');
            formula.addStep(place, STEP_GREATER, 0);
        }

        private void readRectangle() {
            int place = at;
            pass('S');
            pass('(');
            readCell(STEP_CORNER);
            pass(':');
            readCell(STEP_CORNER);
            pass(')');
            formula.addStep(place, STEP_RECTANGLE, 0);
        }

        // A fifth digit is left: whatever is due behind a number, it is no digit, and so it fails there.
        private void readNumber() {
            int place = at;
            int read = 0;
            for (int i = 0; i < MOST_DIGITS && isDigit(next()); i++) {
                read = 10 * read + next() - '0';
                at++;
            }
            formula.addStep(place, STEP_NUMBER, read);
        }

        private void readCell(int step) {
            int place = at;
            int column = passWithin('A', 'H') - 'A';
            int row = passWithin('1', '8') - '1';
            formula.addStep(place, step, SIDE * row + column);
        }

        private static boolean isDigit(int found) {
            return found >= '0' && found <= '9';
        }
    }

    /** What the 64 cells of one sheet hold. */
    private static final class Sheet {
        private final Change unchanged;
        private final int[] held;
        private final int[] numbers;
        private final Formula[] formulas;
        private final long[] needs;
        private long reckoned;

        Sheet() {
            unchanged = new Change();
            held = new int[CELLS];
            numbers = new int[CELLS];
            formulas = new Formula[CELLS];
            needs = new long[CELLS];
        }

        void empty(int c) {
            put(c, HOLDS_NOTHING, 0, null, 0);
        }

        void putNumber(int c, int v) {
            put(c, HOLDS_NUMBER, v, null, 0);
        }

        void putFormula(int c, Formula formula) {
            put(c, HOLDS_FORMULA, 0, formula, formula.needs(unchanged));
        }

        private void put(int c, int holds, int v, Formula formula, long needed) {
            if (isCell(c)) {
                held[c] = holds;
                numbers[c] = v;
                formulas[c] = formula;
                needs[c] = needed;
                reckoned = holds == HOLDS_FORMULA ? reckoned | bit(c) : reckoned & ~bit(c);
            }
        }

        /** The cells that hold formulas, a bit each. */
        long reckoned() {
            return reckoned;
        }

        int heldAt(int c) {
            return isCell(c) ? held[c] : HOLDS_NOTHING;
        }

        /** The number; 0 where there is none. */
        int numberAt(int c) {
            return isCell(c) ? numbers[c] : 0;
        }

        /** The formula, or null. */
        Formula formulaAt(int c) {
            return isCell(c) ? formulas[c] : null;
        }

        /** The cells that the formula names, were it no input's. */
        long needsAt(int c) {
            return isCell(c) ? needs[c] : 0;
        }
    }

    /** What is the same for all sheets: inputs, worlds, wanted cells with their points. */
    private static final class Lesson {
        private final int[] gifts;
        private final int[] worths;
        private long inputs;
        private long wanted;
        private int worlds;

        Lesson() {
            gifts = new int[WORLDS * CELLS];
            worths = new int[CELLS];
        }

        long inputs() {
            return inputs;
        }

        long wanted() {
            return wanted;
        }

        boolean isInput(int c) {
            return (inputs & bit(c)) != 0;
        }

        boolean isWanted(int c) {
            return (wanted & bit(c)) != 0;
        }

        boolean isWorld(int w) {
            return w >= 0 && w < worlds;
        }

        int countInputs() {
            return Long.bitCount(inputs);
        }

        int countWanted() {
            return Long.bitCount(wanted);
        }

        int countWorlds() {
            return worlds;
        }

        int worth(int c) {
            return isCell(c) ? worths[c] : 0;
        }

        int worthOfAll() {
            int sum = 0;
            for (int cell = 0; cell < CELLS; cell++) {
                sum += worth(cell);
            }
            return sum;
        }

        int given(int w, int c) {
            return isWorld(w) && w < WORLDS && isCell(c) ? gifts[w * CELLS + c] : 0;
        }

        void addInput(int c) {
            inputs |= bit(c);
        }

        void want(int c, int worth) {
            if (isCell(c)) {
                wanted |= bit(c);
                worths[c] = worth;
            }
        }

        int addWorld() {
            worlds++;
            return worlds - 1;
        }

        void put(int w, int c, int v) {
            if (isWorld(w) && w < WORLDS && isCell(c)) {
                gifts[w * CELLS + c] = v;
            }
        }
    }

    /** Does a formula's steps on a stack of numbers; the first error ends it, as no later one counts. */
    private static final class Machine {
        private final long[] stack;
        private int height;
        private int error;
        private long result;

        Machine() {
            stack = new long[TEXT_BYTES];
        }

        int errorMet() {
            return error;
        }

        /** What came out; 0 with an error. */
        long result() {
            return result;
        }

        void reckon(Formula formula, Change change, Figures figures, int w) {
            height = 0;
            error = NO_ERROR;
            for (int i = 0; i < formula.countSteps() && error == NO_ERROR; i++) {
                int place = formula.placeOf(i);
                int operand = change.operandOf(formula, place);
                int step = change.stepOf(formula, place);
                switch (step) {
                    case STEP_NUMBER: case STEP_CORNER:
                        push(operand);
                        break;
                    case STEP_CELL:
                        pushCell(figures, w, operand);
                        break;
                    case STEP_NEGATE:
                        push(-pop());
                        break;
                    case STEP_RECTANGLE:
                        pushRectangle(figures, w);
                        break;
                    default:
                        join(step);
                        break;
                }
            }
            result = error == NO_ERROR ? pop() : 0;
        }

        private void push(long number) {
            if (number > GREATEST || number < -GREATEST) {
                error = GREAT;
            } else if (height >= 0 && height < stack.length) {
                stack[height] = number;
                height++;
            }
        }

        private long pop() {
            if (height <= 0 || height > stack.length) {
                return 0;
            }
            height--;
            return stack[height];
        }

        private void pushCell(Figures figures, int w, int cell) {
            error = figures.errorAt(w, cell);
            if (error == NO_ERROR) {
                push(figures.figureAt(w, cell));
            }
        }

        // Each sum on the way comes out, too: one that is great is met ahead of the cells behind it.
        private void pushRectangle(Figures figures, int w) {
            int opposite = (int) pop();
            int corner = (int) pop();
            long cells = rectangle(corner, opposite);
            push(0);
            for (int cell = 0; cell < CELLS && error == NO_ERROR; cell++) {
                if ((cells & bit(cell)) != 0) {
                    error = figures.errorAt(w, cell);
                    push(pop() + figures.figureAt(w, cell));
                }
            }
        }

        private void join(int step) {
            long second = pop();
            long first = pop();
            switch (step) {
                case '+': push(first + second); break;
                case '-': push(first - second); break;
                case '*': multiply(first, second); break;
                case '/': divide(first, second); break;
                default: push(Math.max(first, second)); break;
            }
        }

        // Two numbers in bounds can make one that a long can't hold, so the bound is asked ahead.
        private void multiply(long first, long second) {
            if (first != 0 && Math.abs(second) > GREATEST / Math.abs(first)) {
                error = GREAT;
            } else {
                push(first * second);
            }
        }

        private void divide(long first, long second) {
            if (second == 0) {
                error = BY_ZERO;
            } else {
                push(Math.floorDiv(first, second));
            }
        }
    }

    /** What every cell of a sheet is in every world, as it stands or with right figures for one cell. */
    private static final class Figures {
        private final Lesson lesson;
        private final Machine machine;
        private final Change unchanged;
        private final long[] figures;
        private final int[] errors;
        private final int[] order;
        private int ordered;
        private long settled;

        Figures(Lesson lesson, Machine machine) {
            this.lesson = lesson;
            this.machine = machine;
            unchanged = new Change();
            figures = new long[WORLDS * CELLS];
            errors = new int[WORLDS * CELLS];
            order = new int[CELLS];
        }

        /** The figure; 0 with an error. */
        long figureAt(int w, int c) {
            int slot = w * CELLS + c;
            return slot >= 0 && slot < figures.length ? figures[slot] : 0;
        }

        int errorAt(int w, int c) {
            int slot = w * CELLS + c;
            return slot >= 0 && slot < errors.length ? errors[slot] : NO_ERROR;
        }

        boolean isAlike(Figures other, int w, int c) {
            return errorAt(w, c) == other.errorAt(w, c) && figureAt(w, c) == other.figureAt(w, c);
        }

        /** Whether what is needed leads into no circle. */
        boolean settles(long needs) {
            return (needs & ~settled) == 0;
        }

        void reckonOwn(Sheet sheet) {
            plan(sheet, lesson.inputs() | ~sheet.reckoned(), NONE);
            for (int w = 0; w < WORLDS && lesson.isWorld(w); w++) {
                layHeld(sheet, w);
                follow(sheet, w);
            }
        }

        /** Reckons the subject with right figures; what the other cells are then is for the subject alone. */
        void reckonRight(Sheet sheet, int subject, Figures task) {
            long lent = lesson.wanted() & ~bit(subject);
            plan(sheet, lesson.inputs() | ~sheet.reckoned() | lent, subject);
            for (int w = 0; w < WORLDS && lesson.isWorld(w); w++) {
                layHeld(sheet, w);
                layLent(lent, task, w);
                follow(sheet, w);
            }
        }

        /**
         * Orders the formulas that are not given, what is needed first; those that never come up lead into a circle.
         * The subject comes last and settles nothing, so what needs it is a circle if the subject needs that.
         */
        private void plan(Sheet sheet, long given, int subject) {
            settled = given;
            ordered = 0;
            for (int round = 0; round < CELLS; round++) {
                long before = settled;
                for (int cell = 0; cell < CELLS; cell++) {
                    if ((settled & bit(cell)) == 0 && cell != subject && settles(sheet.needsAt(cell))) {
                        settled |= bit(cell);
                        append(cell);
                    }
                }
                if (settled == before) {
                    break;
                }
            }
            if (subject != NONE && (settled & bit(subject)) == 0 && settles(sheet.needsAt(subject))) {
                append(subject);
            }
        }

        private void append(int cell) {
            if (ordered >= 0 && ordered < order.length) {
                order[ordered] = cell;
                ordered++;
            }
        }

        private void layHeld(Sheet sheet, int w) {
            for (int cell = 0; cell < CELLS; cell++) {
                if (lesson.isInput(cell)) {
                    put(w, cell, lesson.given(w, cell), NO_ERROR);
                } else if (sheet.heldAt(cell) == HOLDS_FORMULA) {
                    put(w, cell, 0, CIRCLE);
                } else {
                    put(w, cell, sheet.numberAt(cell), NO_ERROR);
                }
            }
        }

        private void layLent(long lent, Figures task, int w) {
            for (int cell = 0; cell < CELLS; cell++) {
                if ((lent & bit(cell)) != 0) {
                    put(w, cell, task.figureAt(w, cell), task.errorAt(w, cell));
                }
            }
        }

        private void follow(Sheet sheet, int w) {
            for (int i = 0; i < ordered && i < order.length; i++) {
                Formula formula = sheet.formulaAt(order[i]);
                if (formula != null) {
                    machine.reckon(formula, unchanged, this, w);
                    put(w, order[i], machine.result(), machine.errorMet());
                }
            }
        }

        private void put(int w, int c, long figure, int error) {
            int slot = w * CELLS + c;
            if (slot >= 0 && slot < figures.length && slot < errors.length) {
                figures[slot] = figure;
                errors[slot] = error;
            }
        }
    }

    /** Tells the kinds of a pupil's wanted cells. */
    private static final class Judge {
        private final Lesson lesson;
        private final Machine machine;
        private final Change change;
        private final Figures task;
        private final Figures own;
        private final Figures right;
        private int slipPlace;
        private int slipMade;

        Judge(Lesson lesson, Machine machine, Figures task, Figures own, Figures right) {
            this.lesson = lesson;
            this.machine = machine;
            this.task = task;
            this.own = own;
            this.right = right;
            change = new Change();
        }

        int slipPlace() {
            return slipPlace;
        }

        int slipMade() {
            return slipMade;
        }

        /** Reckons what all cells of the sheet are held against. */
        void open(Sheet tasks, Sheet sheet) {
            if (tasks != null && sheet != null) {
                task.reckonOwn(tasks);
                own.reckonOwn(sheet);
            }
        }

        int judge(Sheet sheet, int c) {
            Formula formula = sheet.formulaAt(c);
            if (formula == null) {
                return judgeNumber(sheet, c);
            }
            if (isAlike(own, c)) {
                return KIND_RIGHT;
            }
            right.reckonRight(sheet, c, task);
            if (isAlike(right, c)) {
                return KIND_CARRIED;
            }
            return findsSlip(formula, c) ? KIND_SLIP : KIND_WRONG;
        }

        private int judgeNumber(Sheet sheet, int c) {
            if (sheet.heldAt(c) == HOLDS_NOTHING) {
                return KIND_EMPTY;
            }
            for (int w = 0; w < WORLDS && lesson.isWorld(w); w++) {
                if (own.isAlike(task, w, c)) {
                    return KIND_TYPED;
                }
            }
            return KIND_WRONG;
        }

        private boolean isAlike(Figures figures, int c) {
            for (int w = 0; w < WORLDS && lesson.isWorld(w); w++) {
                if (!figures.isAlike(task, w, c)) {
                    return false;
                }
            }
            return true;
        }

        private boolean findsSlip(Formula formula, int c) {
            for (int place = 0; place < formula.length(); place++) {
                int options = formula.stepAt(place) == NO_STEP ? 0 : MOST_OPTIONS;
                for (int i = 0; i < options; i++) {
                    int made = option(formula, place, i);
                    if (made != NO_OPTION && isSoChanged(formula, place, made, c)) {
                        slipPlace = place;
                        slipMade = made;
                        return true;
                    }
                }
            }
            return false;
        }

        /** Whether the changed formula is like the task's cell, with the right figures that stand laid for c. */
        private boolean isSoChanged(Formula formula, int place, int made, int c) {
            change.set(place, made);
            boolean settles = right.settles(formula.needs(change));
            for (int w = 0; w < WORLDS && lesson.isWorld(w); w++) {
                int error = CIRCLE;
                long result = 0;
                if (settles) {
                    machine.reckon(formula, change, right, w);
                    error = machine.errorMet();
                    result = machine.result();
                }
                if (error != task.errorAt(w, c) || result != task.figureAt(w, c)) {
                    return false;
                }
            }
            return true;
        }

        private static int option(Formula formula, int place, int i) {
            int step = formula.stepAt(place);
            int operand = formula.operandAt(place);
            if (isSign(step)) {
                return i >= 0 && i < SIGNS.length && SIGNS[i] != step ? SIGNS[i] : NO_OPTION;
            }
            if (step == STEP_NUMBER) {
                return i == 0 ? operand + 1 : i == 1 ? operand - 1 : NO_OPTION;
            }
            return step == STEP_CELL || step == STEP_CORNER ? neighbour(operand, i) : NO_OPTION;
        }

        private static int neighbour(int cell, int i) {
            int row = cell / SIDE;
            int column = cell % SIDE;
            switch (i) {
                case 0: return row > 0 ? cell - SIDE : NO_OPTION;
                case 1: return row < SIDE - 1 ? cell + SIDE : NO_OPTION;
                case 2: return column > 0 ? cell - 1 : NO_OPTION;
                case 3: return column < SIDE - 1 ? cell + 1 : NO_OPTION;
                default: return NO_OPTION;
            }
        }
    }
}
