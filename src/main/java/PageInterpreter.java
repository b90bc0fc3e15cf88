import java.util.Arrays;

/**
 * An interpreter for a small page description language. The document of its promises is DOC.md; the
 * rules of the language that this file keeps to are LANGUAGE.md.
 *
 * <p>All rows are made once, by the constructor, and used again by every call; only setStream makes
 * new ones, as long as the tokens that it reads.
 */
public final class PageInterpreter {
    public static final int INVALID_ARGUMENT = -10000001;
    public static final int ILLEGAL_STATE = -10000002;
    public static final int CAPACITY_EXCEEDED = -10000003;
    public static final int NONE = -10000009;

    private static final int PAGE = -1;
    private static final int FORMS = 6;
    private static final int STREAMS = FORMS + 1;
    private static final int NAMES = 8;
    private static final int COLORS = 16;
    private static final int KIND_COLOR = 1;
    private static final int KIND_FORM = 2;
    private static final int KIND_FACTOR = 100;

    private static final int TEXT_ROOM = 160;
    private static final int UNDO_ROOM = 6;
    private static final int BOX_SIDES = 4;
    private static final int BOX_MOST = 99;
    private static final int GRID_LEAST = 4;
    private static final int GRID_MOST = 24;
    private static final int BUDGET_MOST = 200;

    private static final int SAVE_DEPTH = 6;
    private static final int REPEAT_DEPTH = 3;
    private static final int REPEAT_MOST = 9;
    private static final int DRAW_DEPTH = 4;
    private static final int OPERAND_ROOM = 16;
    private static final int MATRIX_ENTRIES = 6;
    private static final int PATH_POINTS = 24;
    private static final int CLIP_ROOM = 6;
    private static final int ITEM_ROOM = 30;
    private static final int RECT_POINTS = 4;

    /** Every counted operator begins at most one path and adds at most four points. */
    private static final int PATH_ROOM = BUDGET_MOST;
    private static final int POINT_ROOM = BUDGET_MOST * RECT_POINTS;

    /** The page and each nested form have one state and a copy for each open save. */
    private static final int GRAPHICS_ROOM = (DRAW_DEPTH + 1) * (SAVE_DEPTH + 1);

    /** Far above the tokens that 200 operators, and what stands between them, can come to. */
    private static final int STEP_MOST = 1000000;

    private static final int NO_ERROR = 0;
    private static final int ERROR_BUDGET = 1;
    private static final int ERROR_OPERANDS = 2;
    private static final int ERROR_RESOURCE = 3;
    private static final int ERROR_RECURSION = 4;
    private static final int ERROR_DIVISION = 5;
    private static final int ERROR_LIMIT = 6;

    private static final Operator[] OPERATORS = Operator.values();

    private final Reader reader = new Reader();
    private final State state = new State();
    private final State[] saved = new State[UNDO_ROOM];
    private final Machine machine = new Machine();
    private int savedCount;

    public PageInterpreter() {
        for (int i = 0; i < UNDO_ROOM; i++) {
            saved[i] = new State();
        }
    }

    // ---- page and forms

    public int append(int character) {
        if (character < 1 || character > 255) {
            return INVALID_ARGUMENT;
        }
        if (!reader.add(character)) {
            return CAPACITY_EXCEEDED;
        }
        return reader.length;
    }

    public int clearBuffer() {
        int previous = reader.length;
        reader.length = 0;
        return previous;
    }

    public int setStream(int stream) {
        if (!isStream(stream)) {
            return INVALID_ARGUMENT;
        }
        int error = reader.read();
        if (error >= 0) {
            return -10 - error;
        }
        saveState();
        Program program = reader.makeProgram();
        state.programs[stream + 1] = program;
        reader.length = 0;
        return program.length;
    }

    public int tokenCount(int stream) {
        if (!isStream(stream)) {
            return INVALID_ARGUMENT;
        }
        Program program = state.programs[stream + 1];
        return program == null ? NONE : program.length;
    }

    public int setBox(int form, int x0, int y0, int x1, int y1) {
        if (!isForm(form) || !isSpan(x0, x1) || !isSpan(y0, y1)) {
            return INVALID_ARGUMENT;
        }
        saveState();
        int had = state.hasBox[form] ? 1 : 0;
        state.putBox(form, x0, y0, x1, y1);
        return had;
    }

    public int removeBox(int form) {
        if (!isForm(form)) {
            return INVALID_ARGUMENT;
        }
        if (!state.hasBox[form]) {
            return ILLEGAL_STATE;
        }
        saveState();
        state.hasBox[form] = false;
        return 1;
    }

    public int define(int stream, int name, int kind, int value) {
        if (!isStream(stream) || !isName(name) || !isResource(kind, value)) {
            return INVALID_ARGUMENT;
        }
        saveState();
        int previous = state.findResource(stream, name);
        state.putResource(stream, name, kind * KIND_FACTOR + value);
        return previous == 0 ? 0 : 1;
    }

    public int removeResource(int stream, int name) {
        if (!isStream(stream) || !isName(name)) {
            return INVALID_ARGUMENT;
        }
        int previous = state.findResource(stream, name);
        if (previous == 0) {
            return ILLEGAL_STATE;
        }
        saveState();
        state.putResource(stream, name, 0);
        return previous;
    }

    public int resource(int stream, int name) {
        if (!isStream(stream) || !isName(name)) {
            return INVALID_ARGUMENT;
        }
        int found = state.findResource(stream, name);
        return found == 0 ? NONE : found;
    }

    public int setSize(int width, int height) {
        if (!isBetween(width, GRID_LEAST, GRID_MOST) || !isBetween(height, GRID_LEAST, GRID_MOST)) {
            return INVALID_ARGUMENT;
        }
        saveState();
        state.width = width;
        state.height = height;
        return width * height;
    }

    public int setBudget(int operators) {
        if (!isBetween(operators, 1, BUDGET_MOST)) {
            return INVALID_ARGUMENT;
        }
        saveState();
        int previous = state.budget;
        state.budget = operators;
        return previous;
    }

    public int undo() {
        if (savedCount < 1 || savedCount > UNDO_ROOM) {
            return ILLEGAL_STATE;
        }
        savedCount--;
        state.copyFrom(saved[savedCount]);
        return savedCount;
    }

    // ---- running

    public int run() {
        if (state.programs[PAGE + 1] == null) {
            return ILLEGAL_STATE;
        }
        return machine.execute(state);
    }

    public int result(int what) {
        if (!isBetween(what, 0, 6)) {
            return INVALID_ARGUMENT;
        }
        return machine.hasRun ? machine.findNumber(what) : ILLEGAL_STATE;
    }

    public int operand(int index, int part) {
        if (index < 0 || !isBetween(part, 0, 1)) {
            return INVALID_ARGUMENT;
        }
        return machine.hasRun ? machine.findOperand(index, part) : ILLEGAL_STATE;
    }

    public int matrix(int entry, int part) {
        if (!isBetween(entry, 0, MATRIX_ENTRIES - 1) || !isBetween(part, 0, 1)) {
            return INVALID_ARGUMENT;
        }
        return machine.hasRun ? machine.findEntry(entry, part) : ILLEGAL_STATE;
    }

    public int trace(int index, int what) {
        if (index < 0 || !isBetween(what, 0, 2)) {
            return INVALID_ARGUMENT;
        }
        return machine.hasRun ? machine.findCounted(index, what) : ILLEGAL_STATE;
    }

    // ---- painted items

    public int cell(int x, int y) {
        if (!state.hasCell(x, y)) {
            return INVALID_ARGUMENT;
        }
        if (!machine.hasRun) {
            return ILLEGAL_STATE;
        }
        Items items = machine.items;
        return items.colorOf(items.latestAt(x, y, items.count));
    }

    public int countColor(int color) {
        if (!isBetween(color, 0, COLORS - 1)) {
            return INVALID_ARGUMENT;
        }
        return machine.hasRun ? machine.items.countCells(color, state) : ILLEGAL_STATE;
    }

    public int itemAt(int x, int y) {
        if (!state.hasCell(x, y)) {
            return INVALID_ARGUMENT;
        }
        if (!machine.hasRun) {
            return ILLEGAL_STATE;
        }
        int found = machine.items.latestAt(x, y, machine.items.count);
        return found < 0 ? NONE : found;
    }

    public int item(int item, int what) {
        if (item < 0 || !isBetween(what, 0, 8)) {
            return INVALID_ARGUMENT;
        }
        int missing = missingItem(item);
        return missing == 0 ? machine.items.findProperty(item, what, state) : missing;
    }

    public int point(int item, int point, int coordinate) {
        if (item < 0 || point < 0 || !isBetween(coordinate, 0, 1)) {
            return INVALID_ARGUMENT;
        }
        int missing = missingItem(item);
        return missing == 0 ? machine.items.findCoordinate(item, point, coordinate) : missing;
    }

    public int bound(int item, int side) {
        if (item < 0 || !isBetween(side, 0, 3)) {
            return INVALID_ARGUMENT;
        }
        int missing = missingItem(item);
        return missing == 0 ? machine.items.findSide(item, side) : missing;
    }

    public long doubleArea(int item) {
        if (item < 0) {
            return INVALID_ARGUMENT;
        }
        int missing = missingItem(item);
        return missing == 0 ? machine.items.findDoubleArea(item) : missing;
    }

    /** Says why there is no such item (its number is not negative), or 0 if there is one. */
    private int missingItem(int item) {
        if (!machine.hasRun) {
            return ILLEGAL_STATE;
        }
        return item < machine.items.count ? 0 : NONE;
    }

    private void saveState() {
        if (savedCount >= UNDO_ROOM) {
            dropOldestState();
        }
        saved[savedCount].copyFrom(state);
        savedCount++;
    }

    private void dropOldestState() {
        State oldest = saved[0];
        for (int i = 1; i < UNDO_ROOM; i++) {
            saved[i - 1] = saved[i];
        }
        saved[UNDO_ROOM - 1] = oldest;
        savedCount = UNDO_ROOM - 1;
    }

    private static boolean isBetween(int value, int least, int most) {
        return value >= least && value <= most;
    }

    private static boolean isStream(int stream) {
        return isBetween(stream, PAGE, FORMS - 1);
    }

    private static boolean isForm(int form) {
        return isBetween(form, 0, FORMS - 1);
    }

    private static boolean isName(int name) {
        return isBetween(name, 0, NAMES - 1);
    }

    private static boolean isSpan(int from, int to) {
        return isBetween(from, -BOX_MOST, BOX_MOST) && to > from && to <= BOX_MOST;
    }

    private static boolean isResource(int kind, int value) {
        if (kind == KIND_COLOR) {
            return isBetween(value, 0, COLORS - 1);
        }
        return kind == KIND_FORM && isForm(value);
    }

    /** The operators: their words, their operands, and whether they may stand in and out of a path. */
    private enum Operator {
        SAVE("save", 0, false, false, true),
        RESTORE("restore", 0, false, false, true),
        CONCAT("concat", 6, true, false, true),
        MOVE("move", 2, true, true, true),
        LINE("line", 2, true, true, false),
        CLOSE("close", 0, false, true, false),
        RECT("rect", 4, true, true, true),
        CLIP("clip", 0, false, true, false),
        XCLIP("xclip", 0, false, true, false),
        FILL("fill", 0, false, true, false),
        XFILL("xfill", 0, false, true, false),
        DROP("drop", 0, false, true, false),
        COLOR("color", 1, false, false, true),
        DRAW("draw", 1, false, false, true),
        REPEAT("repeat", 1, true, false, true),
        NEXT("next", 0, false, false, true),
        DUP("dup", 1, false, true, true),
        POP("pop", 1, false, true, true),
        EXCH("exch", 2, false, true, true),
        ADD("add", 2, true, true, true),
        SUB("sub", 2, true, true, true),
        MUL("mul", 2, true, true, true),
        DIV("div", 2, true, true, true);

        private final String word;
        private final int operands;
        private final boolean needsNumbers;
        private final boolean inPath;
        private final boolean outOfPath;

        Operator(String word, int operands, boolean needsNumbers, boolean inPath, boolean outOfPath) {
            this.word = word;
            this.operands = operands;
            this.needsNumbers = needsNumbers;
            this.inPath = inPath;
            this.outOfPath = outOfPath;
        }
    }

    /**
     * Operands as single numbers of 64 bits, so that arithmetic makes no objects: the upper half is the
     * numerator, the lower half the denominator. A name is its number over 0.
     */
    private static final class Fraction {
        private static final long MOST = 1000000;
        private static final long ZERO = 1;
        private static final long ONE = (1L << 32) | 1;

        /** What comes out of the limits; it is neither a number nor a name. */
        private static final long TOO_BIG = -1;

        /** 60 divisions bring two numbers below 2 to the 41st to their divisor. */
        private static final int DIVISIONS_MOST = 100;

        private static final int DEVICE_MOST = 16000;
        private static final int TOO_FAR = DEVICE_MOST + 1;

        private static int numerator(long value) {
            return (int) (value >> 32);
        }

        private static int denominator(long value) {
            return (int) value;
        }

        private static long nameOf(int number) {
            return (long) number << 32;
        }

        private static boolean isNumber(long value) {
            return (int) value > 0;
        }

        private static boolean isNameValue(long value) {
            return denominator(value) == 0;
        }

        private static boolean isIntegerUpTo(long value, int most) {
            return denominator(value) == 1 && numerator(value) >= 0 && numerator(value) <= most;
        }

        private static long lowest(long numerator, long denominator) {
            long divisor = denominator;
            long rest = numerator;
            for (int i = 0; i < DIVISIONS_MOST && rest != 0; i++) {
                long further = divisor % rest;
                divisor = rest;
                rest = further;
            }
            if (denominator == 0 || divisor == 0) {
                return TOO_BIG;
            }
            long n = numerator / divisor;
            long d = denominator / divisor;
            if (d < 0) {
                n = -n;
                d = -d;
            }
            if (n > MOST || n < -MOST || d > MOST) {
                return TOO_BIG;
            }
            return (n << 32) | d;
        }

        private static long sum(long p, long q) {
            if (!isNumber(p) || !isNumber(q)) {
                return TOO_BIG;
            }
            long left = (long) numerator(p) * denominator(q);
            long right = (long) numerator(q) * denominator(p);
            return lowest(left + right, (long) denominator(p) * denominator(q));
        }

        private static long difference(long p, long q) {
            if (!isNumber(p) || !isNumber(q)) {
                return TOO_BIG;
            }
            long left = (long) numerator(p) * denominator(q);
            long right = (long) numerator(q) * denominator(p);
            return lowest(left - right, (long) denominator(p) * denominator(q));
        }

        private static long product(long p, long q) {
            if (!isNumber(p) || !isNumber(q)) {
                return TOO_BIG;
            }
            long n = (long) numerator(p) * numerator(q);
            return lowest(n, (long) denominator(p) * denominator(q));
        }

        private static long quotient(long p, long q) {
            if (!isNumber(p) || !isNumber(q)) {
                return TOO_BIG;
            }
            long n = (long) numerator(p) * denominator(q);
            return lowest(n, (long) denominator(p) * numerator(q));
        }

        /** The nearest number of sixteenths, or TOO_FAR. */
        private static int sixteenths(long value) {
            if (!isNumber(value)) {
                return TOO_FAR;
            }
            long d = denominator(value);
            long rounded = Math.floorDiv(32 * numerator(value) + d, 2 * d);
            return rounded < -DEVICE_MOST || rounded > DEVICE_MOST ? TOO_FAR : (int) rounded;
        }
    }

    /** The tokens of a stream: an operator each, or none and a number or a name. */
    private static final class Program {
        private final Operator[] operators;
        private final long[] literals;
        private final int[] partners;
        private final int length;

        private Program(Operator[] operators, long[] literals, int[] partners, int length) {
            this.length = Math.max(0, Math.min(length, operators.length));
            this.operators = new Operator[this.length];
            for (int i = 0; i < this.length; i++) {
                this.operators[i] = operators[i];
            }
            this.literals = Arrays.copyOf(literals, this.length);
            this.partners = Arrays.copyOf(partners, this.length);
        }

        /** The next that belongs to a repeat. */
        private int findPartner(int repeat) {
            return repeat >= 0 && repeat < length ? partners[repeat] : length;
        }
    }

    /** What is open at a place of a text. */
    private static final class Structure {
        private final Operator[] openOperators = new Operator[SAVE_DEPTH + REPEAT_DEPTH];
        private final int[] openTokens = new int[SAVE_DEPTH + REPEAT_DEPTH];
        private int open;
        private int openSaves;
        private int openRepeats;
        private boolean pathOpen;
        private boolean partOpen;
        private boolean marked;

        private void begin() {
            open = 0;
            openSaves = 0;
            openRepeats = 0;
            endPath();
        }

        private void endPath() {
            pathOpen = false;
            partOpen = false;
            marked = false;
        }

        private boolean isComplete() {
            return open == 0 && !pathOpen;
        }

        /** Goes past an operator; false if it is not allowed here. */
        private boolean pass(Operator operator, int token, int[] partners) {
            if (pathOpen ? !operator.inPath : !operator.outOfPath) {
                return false;
            }
            switch (operator) {
                case SAVE:
                    return openSaves < SAVE_DEPTH && passOpening(operator, token);
                case REPEAT:
                    return openRepeats < REPEAT_DEPTH && passOpening(operator, token);
                case RESTORE:
                    return passClosing(Operator.SAVE, token, partners);
                case NEXT:
                    return passClosing(Operator.REPEAT, token, partners);
                default:
                    return passInPath(operator);
            }
        }

        private boolean passOpening(Operator operator, int token) {
            if (open >= openOperators.length) {
                return false;
            }
            openOperators[open] = operator;
            openTokens[open] = token;
            open++;
            countOpen(operator, 1);
            return true;
        }

        private boolean passClosing(Operator opening, int token, int[] partners) {
            if (open < 1 || openOperators[open - 1] != opening) {
                return false;
            }
            open--;
            countOpen(opening, -1);
            int partner = openTokens[open];
            if (partner >= 0 && partner < partners.length) {
                partners[partner] = token;
            }
            return true;
        }

        private void countOpen(Operator opening, int change) {
            if (opening == Operator.SAVE) {
                openSaves += change;
            } else {
                openRepeats += change;
            }
        }

        private boolean passInPath(Operator operator) {
            boolean allowed = true;
            switch (operator) {
                case MOVE:
                    pathOpen = true;
                    partOpen = true;
                    break;
                case RECT:
                    pathOpen = true;
                    partOpen = false;
                    break;
                case LINE:
                    allowed = partOpen;
                    break;
                case CLOSE:
                    allowed = partOpen;
                    partOpen = false;
                    break;
                case CLIP:
                case XCLIP:
                    allowed = !marked;
                    marked = true;
                    break;
                case FILL:
                case XFILL:
                case DROP:
                    endPath();
                    break;
                default:
                    break;
            }
            return allowed;
        }
    }

    /** The buffer, and the tokens that were last read from it. */
    private static final class Reader {
        private final int[] text = new int[TEXT_ROOM];
        private final Operator[] operators = new Operator[TEXT_ROOM];
        private final long[] literals = new long[TEXT_ROOM];
        private final int[] partners = new int[TEXT_ROOM];
        private final Structure structure = new Structure();
        private int length;
        private int tokens;

        private boolean add(int character) {
            if (length < 0 || length >= TEXT_ROOM) {
                return false;
            }
            text[length] = character;
            length++;
            return true;
        }

        private Program makeProgram() {
            return new Program(operators, literals, partners, tokens);
        }

        /** Returns the error position of the text, or -1 if it is a stream. */
        private int read() {
            tokens = 0;
            structure.begin();
            int from = skipSpaces(0);
            for (int i = 0; i < TEXT_ROOM && from < length; i++) {
                int end = findEnd(from);
                if (!readToken(from, end)) {
                    return from;
                }
                tokens++;
                from = skipSpaces(end);
            }
            return structure.isComplete() ? -1 : length;
        }

        private int signAt(int at) {
            return at >= 0 && at < length && at < TEXT_ROOM ? text[at] : 0;
        }

        private int skipSpaces(int from) {
            int at = from;
            while (at < length && signAt(at) == ' ') {
                at++;
            }
            return at;
        }

        private int findEnd(int from) {
            int first = signAt(from);
            if (first == '$') {
                return from + 1 < length ? from + 2 : length;
            }
            int end = from + 1;
            if (isNumberSign(first)) {
                while (end < length && isNumberSign(signAt(end))) {
                    end++;
                }
            } else if (isSmallLetter(first)) {
                while (end < length && isSmallLetter(signAt(end))) {
                    end++;
                }
            }
            return end;
        }

        private static boolean isNumberSign(int sign) {
            return isDigit(sign) || sign == '-' || sign == '/';
        }

        private static boolean isDigit(int sign) {
            return sign >= '0' && sign <= '9';
        }

        private static boolean isSmallLetter(int sign) {
            return sign >= 'a' && sign <= 'z';
        }

        /** Reads the token from a place to its end; false if it is not allowed there. */
        private boolean readToken(int from, int end) {
            if (tokens < 0 || tokens >= TEXT_ROOM) {
                return false;
            }
            int first = signAt(from);
            operators[tokens] = null;
            literals[tokens] = Fraction.ZERO;
            partners[tokens] = tokens;
            if (first == '$') {
                literals[tokens] = Fraction.nameOf(signAt(from + 1) - 'A');
                return end - from == 2 && isName(signAt(from + 1) - 'A') && !structure.pathOpen;
            }
            if (isNumberSign(first)) {
                literals[tokens] = readNumber(from, end);
                return Fraction.isNumber(literals[tokens]);
            }
            Operator operator = findOperator(from, end);
            operators[tokens] = operator;
            return operator != null && structure.pass(operator, tokens, partners);
        }

        /** Reads a number; what is none gives TOO_BIG. */
        private long readNumber(int from, int end) {
            boolean negative = signAt(from) == '-';
            int digit = negative ? from + 1 : from;
            int digits = 0;
            int value = 0;
            while (digit < end && digits < 4 && isDigit(signAt(digit))) {
                value = value * 10 + signAt(digit) - '0';
                digit++;
                digits++;
            }
            boolean leadingZero = digits > 1 && signAt(digit - digits) == '0';
            if (digits < 1 || digits > 3 || leadingZero) {
                return Fraction.TOO_BIG;
            }
            int denominator = digit == end ? 1 : readDenominator(digit, end);
            return denominator < 1 ? Fraction.TOO_BIG : Fraction.lowest(negative ? -value : value, denominator);
        }

        /** Reads what stands behind the digits of a number; 0 if it may not stand there. */
        private int readDenominator(int slash, int end) {
            int denominator = signAt(slash + 1) - '0';
            boolean right = signAt(slash) == '/' && slash + 2 == end && isBetween(denominator, 2, 9);
            return right ? denominator : 0;
        }

        private Operator findOperator(int from, int end) {
            for (int i = 0; i < OPERATORS.length; i++) {
                if (isWord(OPERATORS[i].word, from, end)) {
                    return OPERATORS[i];
                }
            }
            return null;
        }

        private boolean isWord(String word, int from, int end) {
            if (word.length() != end - from) {
                return false;
            }
            for (int i = 0; i < word.length(); i++) {
                if (word.charAt(i) != signAt(from + i)) {
                    return false;
                }
            }
            return true;
        }
    }

    /** What edits change and undo restores. */
    private static final class State {
        private final Program[] programs = new Program[STREAMS];
        private final boolean[] hasBox = new boolean[FORMS];
        private final int[] boxes = new int[FORMS * BOX_SIDES];
        private final int[] resources = new int[STREAMS * NAMES];
        private int width = 12;
        private int height = 12;
        private int budget = 120;

        private void copyFrom(State other) {
            for (int i = 0; i < STREAMS; i++) {
                programs[i] = other.programs[i];
            }
            for (int i = 0; i < FORMS; i++) {
                hasBox[i] = other.hasBox[i];
            }
            System.arraycopy(other.boxes, 0, boxes, 0, boxes.length);
            System.arraycopy(other.resources, 0, resources, 0, resources.length);
            width = other.width;
            height = other.height;
            budget = other.budget;
        }

        private boolean hasCell(int x, int y) {
            return x >= 0 && x < width && y >= 0 && y < height;
        }

        private void putBox(int form, int x0, int y0, int x1, int y1) {
            if (isForm(form)) {
                hasBox[form] = true;
                boxes[form * BOX_SIDES] = x0;
                boxes[form * BOX_SIDES + 1] = y0;
                boxes[form * BOX_SIDES + 2] = x1;
                boxes[form * BOX_SIDES + 3] = y1;
            }
        }

        /** A side of a box as a number of the language. */
        private long findSideOfBox(int form, int side) {
            if (!isForm(form) || !isBetween(side, 0, BOX_SIDES - 1)) {
                return Fraction.ZERO;
            }
            return Fraction.lowest(boxes[form * BOX_SIDES + side], 1);
        }

        /** A resource as 100 * kind + value, or 0 if there is none. */
        private int findResource(int stream, int name) {
            return isStream(stream) && isName(name) ? resources[(stream + 1) * NAMES + name] : 0;
        }

        private void putResource(int stream, int name, int packed) {
            if (isStream(stream) && isName(name)) {
                resources[(stream + 1) * NAMES + name] = packed;
            }
        }
    }

    /** A graphics state. */
    private static final class Graphics {
        private final long[] matrix = new long[MATRIX_ENTRIES];
        private final int[] clips = new int[CLIP_ROOM];
        private int clipCount;
        private int color;

        private void begin() {
            matrix[0] = Fraction.ONE;
            matrix[1] = Fraction.ZERO;
            matrix[2] = Fraction.ZERO;
            matrix[3] = Fraction.ONE;
            matrix[4] = Fraction.ZERO;
            matrix[5] = Fraction.ZERO;
            clipCount = 0;
            color = 1;
        }

        private void copyFrom(Graphics other) {
            System.arraycopy(other.matrix, 0, matrix, 0, MATRIX_ENTRIES);
            System.arraycopy(other.clips, 0, clips, 0, CLIP_ROOM);
            clipCount = other.clipCount;
            color = other.color;
        }

        private boolean isFull() {
            return clipCount >= CLIP_ROOM;
        }

        private void addClip(int path) {
            if (clipCount >= 0 && clipCount < CLIP_ROOM) {
                clips[clipCount] = path;
                clipCount++;
            }
        }

        /** One coordinate (0 x, 1 y) of the place to which the matrix takes a point. */
        private int toDevice(long x, long y, int coordinate) {
            if (!isBetween(coordinate, 0, 1)) {
                return Fraction.TOO_FAR;
            }
            long first = Fraction.product(matrix[coordinate], x);
            long second = Fraction.product(matrix[coordinate + 2], y);
            return Fraction.sixteenths(Fraction.sum(Fraction.sum(first, second), matrix[coordinate + 4]));
        }
    }

    /**
     * All paths of a run, one behind the other in the same rows. The last one is the path that is being
     * made; it may be empty.
     */
    private static final class Paths {
        private final int[] xs = new int[POINT_ROOM];
        private final int[] ys = new int[POINT_ROOM];
        private final boolean[] startsPart = new boolean[POINT_ROOM];
        private final int[] starts = new int[PATH_ROOM + 1];
        private final boolean[] oddClip = new boolean[PATH_ROOM + 1];
        private int ended;
        private int points;
        private boolean marked;

        private void begin() {
            ended = 0;
            points = 0;
            starts[0] = 0;
            oddClip[0] = false;
            marked = false;
        }

        private int presentPoints() {
            return points - startOf(ended);
        }

        private void add(int x, int y, boolean startsNewPart) {
            if (points >= 0 && points < POINT_ROOM) {
                xs[points] = x;
                ys[points] = y;
                startsPart[points] = startsNewPart;
                points++;
            }
        }

        /** Adds the points of a part: x and y by turns. */
        private void addPart(int[] coordinates) {
            for (int i = 0; i + 1 < coordinates.length; i += 2) {
                add(coordinates[i], coordinates[i + 1], i == 0);
            }
        }

        private void mark(boolean odd) {
            if (ended >= 0 && ended < PATH_ROOM) {
                marked = true;
                oddClip[ended] = odd;
            }
        }

        /** Ends the present path and returns its number. */
        private int end() {
            int path = ended;
            if (path < PATH_ROOM) {
                ended++;
                starts[ended] = points;
                oddClip[ended] = false;
            }
            marked = false;
            return path;
        }

        /** The number of the first point of a path. */
        private int startOf(int path) {
            return path >= 0 && path <= PATH_ROOM ? starts[path] : 0;
        }

        /** The number behind the last point of a path that has ended. */
        private int endOf(int path) {
            return path >= 0 && path < ended ? starts[path + 1] : 0;
        }

        private boolean isOddClip(int path) {
            return path >= 0 && path <= PATH_ROOM && oddClip[path];
        }

        private int countParts(int path) {
            int parts = 0;
            for (int i = startOf(path); i < endOf(path); i++) {
                if (startsPart[i]) {
                    parts++;
                }
            }
            return parts;
        }

        private boolean covers(int path, boolean odd, int x, int y) {
            int sum = 0;
            int end = endOf(path);
            int first = startOf(path);
            for (int i = first; i < end; i++) {
                if (startsPart[i]) {
                    first = i;
                }
                sum += crossing(i, findNext(i, first, end), x, y);
            }
            return odd ? (sum & 1) != 0 : sum != 0;
        }

        /** The point to which the edge from a point leads; the last point of a part leads to its first. */
        private int findNext(int point, int first, int end) {
            return point + 1 < end && !startsPart[point + 1] ? point + 1 : first;
        }

        private int crossing(int from, int to, int x, int y) {
            boolean up = ys[from] <= y && ys[to] > y;
            boolean down = ys[to] <= y && ys[from] > y;
            if (!up && !down) {
                return 0;
            }
            // the way from x to the edge at the height y, times the height of the edge, which has a sign
            long way = (long) (xs[from] - x) * (ys[to] - ys[from]) + (long) (y - ys[from]) * (xs[to] - xs[from]);
            if (up) {
                return way > 0 ? 1 : 0;
            }
            return way < 0 ? -1 : 0;
        }

        private long findDoubleArea(int path) {
            long sum = 0;
            int end = endOf(path);
            int first = startOf(path);
            for (int i = first; i < end; i++) {
                if (startsPart[i]) {
                    first = i;
                }
                int next = findNext(i, first, end);
                sum += (long) xs[i] * ys[next] - (long) xs[next] * ys[i];
            }
            return sum < 0 ? -sum : sum;
        }
    }

    /** The painted items of the latest run, and the paths that they were made of. */
    private static final class Items {
        private final Paths paths = new Paths();
        private final int[] pathOf = new int[ITEM_ROOM];
        private final boolean[] odd = new boolean[ITEM_ROOM];
        private final int[] colors = new int[ITEM_ROOM];
        private final int[] streams = new int[ITEM_ROOM];
        private final int[] tokens = new int[ITEM_ROOM];
        private final int[] clipCounts = new int[ITEM_ROOM];
        private final int[] clips = new int[ITEM_ROOM * CLIP_ROOM];
        private int count;

        private boolean isFull() {
            return count >= ITEM_ROOM;
        }

        private void add(int path, boolean byOddRule, Graphics graphics, int stream, int token) {
            if (count < 0 || count >= ITEM_ROOM) {
                return;
            }
            pathOf[count] = path;
            odd[count] = byOddRule;
            colors[count] = graphics.color;
            streams[count] = stream;
            tokens[count] = token;
            clipCounts[count] = graphics.clipCount;
            System.arraycopy(graphics.clips, 0, clips, count * CLIP_ROOM, CLIP_ROOM);
            count++;
        }

        private boolean has(int item) {
            return item >= 0 && item < count && item < ITEM_ROOM;
        }

        private int colorOf(int item) {
            return has(item) ? colors[item] : 0;
        }

        private boolean coversCell(int item, int cellX, int cellY) {
            int x = 16 * cellX + 8;
            int y = 16 * cellY + 8;
            if (!has(item) || !paths.covers(pathOf[item], odd[item], x, y)) {
                return false;
            }
            for (int i = 0; i < clipCounts[item] && i < CLIP_ROOM; i++) {
                int clip = clips[item * CLIP_ROOM + i];
                if (!paths.covers(clip, paths.isOddClip(clip), x, y)) {
                    return false;
                }
            }
            return true;
        }

        /** The latest of the items before a given one that covers a cell, or -1. */
        private int latestAt(int x, int y, int before) {
            for (int i = before - 1; i >= 0; i--) {
                if (coversCell(i, x, y)) {
                    return i;
                }
            }
            return -1;
        }

        private int countCells(int color, State state) {
            int cells = 0;
            for (int y = 0; y < state.height; y++) {
                for (int x = 0; x < state.width; x++) {
                    if (colorOf(latestAt(x, y, count)) == color) {
                        cells++;
                    }
                }
            }
            return cells;
        }

        private int countCovered(int item, State state) {
            int cells = 0;
            for (int y = 0; y < state.height; y++) {
                for (int x = 0; x < state.width; x++) {
                    if (coversCell(item, x, y)) {
                        cells++;
                    }
                }
            }
            return cells;
        }

        private int countChanged(int item, State state) {
            int cells = 0;
            for (int y = 0; y < state.height; y++) {
                for (int x = 0; x < state.width; x++) {
                    boolean seen = latestAt(x, y, count) == item;
                    if (seen && colorOf(latestAt(x, y, item)) != colorOf(item)) {
                        cells++;
                    }
                }
            }
            return cells;
        }

        private int countPoints(int item) {
            return has(item) ? paths.endOf(pathOf[item]) - paths.startOf(pathOf[item]) : 0;
        }

        private int findProperty(int item, int what, State state) {
            if (!has(item)) {
                return NONE;
            }
            switch (what) {
                case 0:
                    return colors[item];
                case 1:
                    return odd[item] ? 1 : 0;
                case 2:
                    return paths.countParts(pathOf[item]);
                case 3:
                    return countPoints(item);
                case 4:
                    return clipCounts[item];
                case 5:
                    return streams[item];
                case 6:
                    return tokens[item];
                case 7:
                    return countCovered(item, state);
                default:
                    return countChanged(item, state);
            }
        }

        private int findCoordinate(int item, int number, int coordinate) {
            if (number < 0 || number >= countPoints(item)) {
                return NONE;
            }
            int at = paths.startOf(pathOf[item]) + number;
            return coordinate == 0 ? paths.xs[at] : paths.ys[at];
        }

        /** A side of the bounding box: 0 and 1 the smallest, 2 and 3 the greatest coordinates. */
        private int findSide(int item, int side) {
            int found = findCoordinate(item, 0, side % 2);
            for (int i = 1; i < countPoints(item); i++) {
                int coordinate = findCoordinate(item, i, side % 2);
                if (side < 2 ? coordinate < found : coordinate > found) {
                    found = coordinate;
                }
            }
            return found;
        }

        private long findDoubleArea(int item) {
            return has(item) ? paths.findDoubleArea(pathOf[item]) : NONE;
        }
    }

    /** The execution of a stream. */
    private static final class Frame {
        private final long[] operands = new long[OPERAND_ROOM];
        private final int[] loopStarts = new int[REPEAT_DEPTH];
        private final int[] loopsLeft = new int[REPEAT_DEPTH];
        private Program program;
        private int stream;
        private int token;
        private int size;
        private int loops;

        private void begin(int newStream, Program newProgram) {
            stream = newStream;
            program = newProgram;
            token = 0;
            size = 0;
            loops = 0;
        }

        private boolean isAtEnd() {
            return program == null || token < 0 || token >= program.length;
        }

        private Operator presentOperator() {
            return isAtEnd() ? null : program.operators[token];
        }

        /** Puts the present number or name on the stack and goes past it; false if there is no room. */
        private boolean pushLiteral() {
            if (isFull() || isAtEnd()) {
                return false;
            }
            push(program.literals[token]);
            token++;
            return true;
        }

        private boolean isFull() {
            return size >= OPERAND_ROOM;
        }

        private void push(long value) {
            if (size >= 0 && size < OPERAND_ROOM) {
                operands[size] = value;
                size++;
            }
        }

        private void remove(int number) {
            size = number < size ? size - number : 0;
        }

        /** An operand, counted from the top, which is 0. */
        private long peek(int fromTop) {
            int at = size - 1 - fromTop;
            return at >= 0 && at < OPERAND_ROOM ? operands[at] : Fraction.TOO_BIG;
        }

        private boolean hasOperandsOf(Operator operator) {
            if (size < operator.operands) {
                return false;
            }
            for (int i = 0; operator.needsNumbers && i < operator.operands; i++) {
                if (!Fraction.isNumber(peek(i))) {
                    return false;
                }
            }
            return true;
        }

        /** Begins the loop of a repeat; loops of no times are passed over. */
        private void beginLoop(int repeat, int times) {
            if (times < 1) {
                token = program.findPartner(repeat) + 1;
            } else if (loops < REPEAT_DEPTH) {
                loopStarts[loops] = repeat + 1;
                loopsLeft[loops] = times;
                loops++;
            }
        }

        /** Goes past a next: back to the start of its loop, or on if that was the last time. */
        private void passNext() {
            token++;
            if (loops < 1 || loops > REPEAT_DEPTH) {
                return;
            }
            loopsLeft[loops - 1]--;
            if (loopsLeft[loops - 1] > 0) {
                token = loopStarts[loops - 1];
            } else {
                loops--;
            }
        }
    }

    /** Executes the page, and keeps the results of the latest run. */
    private static final class Machine {
        private final Frame[] frames = new Frame[DRAW_DEPTH + 1];
        private final Graphics[] states = new Graphics[GRAPHICS_ROOM];
        private final Items items = new Items();
        private final Paths paths = items.paths;
        private final int[] countedStreams = new int[BUDGET_MOST];
        private final int[] countedTokens = new int[BUDGET_MOST];
        private final int[] countedForms = new int[BUDGET_MOST];
        private final long[] newMatrix = new long[MATRIX_ENTRIES];
        private final int[] corners = new int[2 * RECT_POINTS];
        private State state;
        private boolean hasRun;
        private int depth;
        private int top;
        private int counted;
        private int deepest;
        private int error;
        private int errorStream;
        private int errorToken;

        private Machine() {
            for (int i = 0; i < frames.length; i++) {
                frames[i] = new Frame();
            }
            for (int i = 0; i < states.length; i++) {
                states[i] = new Graphics();
            }
        }

        private int execute(State newState) {
            begin(newState);
            boolean running = true;
            for (int i = 0; i < STEP_MOST && running; i++) {
                Frame frame = frames[depth];
                if (frame.isAtEnd()) {
                    running = depth > 0;
                    leaveForm();
                    continue;
                }
                int token = frame.token;
                int forms = depth;
                Operator operator = frame.presentOperator();
                if (operator == Operator.NEXT) {
                    frame.passNext();
                } else if (operator == null) {
                    error = frame.pushLiteral() ? NO_ERROR : ERROR_LIMIT;
                } else {
                    frame.token++;
                    error = perform(operator, frame, token);
                }
                if (error != NO_ERROR) {
                    errorStream = frame.stream;
                    errorToken = token;
                    running = false;
                } else if (operator != null && operator != Operator.NEXT) {
                    count(frame.stream, token, forms);
                }
            }
            return error;
        }

        private void begin(State newState) {
            state = newState;
            hasRun = true;
            depth = 0;
            top = 0;
            counted = 0;
            deepest = 0;
            error = NO_ERROR;
            paths.begin();
            items.count = 0;
            states[0].begin();
            frames[0].begin(PAGE, newState.programs[PAGE + 1]);
        }

        private void leaveForm() {
            if (depth > 0) {
                depth--;
                popGraphics();
            }
        }

        private void count(int stream, int token, int forms) {
            if (counted < BUDGET_MOST) {
                countedStreams[counted] = stream;
                countedTokens[counted] = token;
                countedForms[counted] = forms;
                counted++;
            }
        }

        /** Executes an operator unless something is wrong with it, and returns the error kind. */
        private int perform(Operator operator, Frame frame, int token) {
            if (counted >= state.budget) {
                return ERROR_BUDGET;
            }
            if (!frame.hasOperandsOf(operator)) {
                return ERROR_OPERANDS;
            }
            switch (operator) {
                case SAVE:
                    pushGraphics();
                    return NO_ERROR;
                case RESTORE:
                    popGraphics();
                    return NO_ERROR;
                case CONCAT:
                    return concat(frame);
                case MOVE:
                case LINE:
                    return addPoint(frame, operator == Operator.MOVE);
                case RECT:
                    return addRect(frame);
                case CLIP:
                case XCLIP:
                    paths.mark(operator == Operator.XCLIP);
                    return NO_ERROR;
                case FILL:
                case XFILL:
                case DROP:
                    return endPath(operator, frame.stream, token);
                case COLOR:
                    return setColor(frame);
                case DRAW:
                    return draw(frame);
                case REPEAT:
                    return repeat(frame, token);
                case DUP:
                    return duplicate(frame);
                case POP:
                    frame.remove(1);
                    return NO_ERROR;
                case EXCH:
                    exchange(frame);
                    return NO_ERROR;
                case ADD:
                case SUB:
                case MUL:
                case DIV:
                    return calculate(operator, frame);
                default:
                    // close: the next move or rect tells where its part ends
                    return NO_ERROR;
            }
        }

        private void pushGraphics() {
            if (top + 1 < GRAPHICS_ROOM) {
                states[top + 1].copyFrom(states[top]);
                top++;
            }
        }

        private void popGraphics() {
            if (top > 0) {
                top--;
            }
        }

        private int concat(Frame frame) {
            long[] present = states[top].matrix;
            boolean fits = true;
            for (int i = 0; i < MATRIX_ENTRIES; i++) {
                int row = i - i % 2;
                long first = Fraction.product(frame.peek(MATRIX_ENTRIES - 1 - row), present[i % 2]);
                long second = Fraction.product(frame.peek(MATRIX_ENTRIES - 2 - row), present[i % 2 + 2]);
                newMatrix[i] = Fraction.sum(first, second);
                if (row == 4) {
                    newMatrix[i] = Fraction.sum(newMatrix[i], present[i]);
                }
                fits = fits && Fraction.isNumber(newMatrix[i]);
            }
            if (!fits) {
                return ERROR_LIMIT;
            }
            System.arraycopy(newMatrix, 0, present, 0, MATRIX_ENTRIES);
            frame.remove(MATRIX_ENTRIES);
            return NO_ERROR;
        }

        private int addPoint(Frame frame, boolean startsPart) {
            int x = states[top].toDevice(frame.peek(1), frame.peek(0), 0);
            int y = states[top].toDevice(frame.peek(1), frame.peek(0), 1);
            if (paths.presentPoints() + 1 > PATH_POINTS || x == Fraction.TOO_FAR || y == Fraction.TOO_FAR) {
                return ERROR_LIMIT;
            }
            paths.add(x, y, startsPart);
            frame.remove(2);
            return NO_ERROR;
        }

        private int addRect(Frame frame) {
            long x = frame.peek(3);
            long y = frame.peek(2);
            long farX = Fraction.sum(x, frame.peek(1));
            long farY = Fraction.sum(y, frame.peek(0));
            if (paths.presentPoints() + RECT_POINTS > PATH_POINTS || !setCorners(x, y, farX, farY)) {
                return ERROR_LIMIT;
            }
            paths.addPart(corners);
            frame.remove(4);
            return NO_ERROR;
        }

        /** Takes the corners of a rectangle to device coordinates; false if they are too far. */
        private boolean setCorners(long x0, long y0, long x1, long y1) {
            boolean fits = true;
            for (int i = 0; i < RECT_POINTS; i++) {
                long x = i == 1 || i == 2 ? x1 : x0;
                long y = i < 2 ? y0 : y1;
                for (int coordinate = 0; coordinate < 2; coordinate++) {
                    int device = states[top].toDevice(x, y, coordinate);
                    corners[2 * i + coordinate] = device;
                    fits = fits && device != Fraction.TOO_FAR;
                }
            }
            return fits;
        }

        private int endPath(Operator operator, int stream, int token) {
            boolean paints = operator != Operator.DROP;
            boolean clips = paths.marked;
            Graphics present = states[top];
            if (clips && present.isFull() || paints && items.isFull()) {
                return ERROR_LIMIT;
            }
            int path = paths.end();
            if (paints) {
                items.add(path, operator == Operator.XFILL, present, stream, token);
            }
            if (clips) {
                present.addClip(path);
            }
            return NO_ERROR;
        }

        /** Looks a name up in the map of the present stream and of those that drew it, up to the page. */
        private int lookUp(int name) {
            for (int level = depth; level >= 0; level--) {
                int found = state.findResource(frames[level].stream, name);
                if (found != 0) {
                    return found;
                }
            }
            return 0;
        }

        private int setColor(Frame frame) {
            long value = frame.peek(0);
            int color = Fraction.numerator(value);
            if (Fraction.isNameValue(value)) {
                int found = lookUp(color);
                if (found / KIND_FACTOR != KIND_COLOR) {
                    return ERROR_RESOURCE;
                }
                color = found % KIND_FACTOR;
            } else if (!Fraction.isIntegerUpTo(value, COLORS - 1)) {
                return ERROR_OPERANDS;
            }
            states[top].color = color;
            frame.remove(1);
            return NO_ERROR;
        }

        private int draw(Frame frame) {
            long value = frame.peek(0);
            if (!Fraction.isNameValue(value)) {
                return ERROR_OPERANDS;
            }
            int found = lookUp(Fraction.numerator(value));
            int form = found % KIND_FACTOR;
            if (found / KIND_FACTOR != KIND_FORM || !isForm(form) || state.programs[form + 1] == null) {
                return ERROR_RESOURCE;
            }
            if (isExecuted(form)) {
                return ERROR_RECURSION;
            }
            boolean boxed = state.hasBox[form];
            if (depth >= DRAW_DEPTH || boxed && states[top].isFull()) {
                return ERROR_LIMIT;
            }
            if (boxed && !setCorners(
                    state.findSideOfBox(form, 0), state.findSideOfBox(form, 1),
                    state.findSideOfBox(form, 2), state.findSideOfBox(form, 3))) {
                return ERROR_LIMIT;
            }
            frame.remove(1);
            pushGraphics();
            if (boxed) {
                paths.addPart(corners);
                states[top].addClip(paths.end());
            }
            depth++;
            deepest = depth > deepest ? depth : deepest;
            frames[depth].begin(form, state.programs[form + 1]);
            return NO_ERROR;
        }

        private boolean isExecuted(int form) {
            for (int level = 1; level <= depth; level++) {
                if (frames[level].stream == form) {
                    return true;
                }
            }
            return false;
        }

        private int repeat(Frame frame, int token) {
            if (!Fraction.isIntegerUpTo(frame.peek(0), REPEAT_MOST)) {
                return ERROR_OPERANDS;
            }
            int times = Fraction.numerator(frame.peek(0));
            frame.remove(1);
            frame.beginLoop(token, times);
            return NO_ERROR;
        }

        private int duplicate(Frame frame) {
            if (frame.isFull()) {
                return ERROR_LIMIT;
            }
            frame.push(frame.peek(0));
            return NO_ERROR;
        }

        private void exchange(Frame frame) {
            long below = frame.peek(1);
            long above = frame.peek(0);
            frame.remove(2);
            frame.push(above);
            frame.push(below);
        }

        private int calculate(Operator operator, Frame frame) {
            long x = frame.peek(1);
            long y = frame.peek(0);
            if (operator == Operator.DIV && Fraction.numerator(y) == 0) {
                return ERROR_DIVISION;
            }
            long value = apply(operator, x, y);
            if (!Fraction.isNumber(value)) {
                return ERROR_LIMIT;
            }
            frame.remove(2);
            frame.push(value);
            return NO_ERROR;
        }

        private static long apply(Operator operator, long x, long y) {
            switch (operator) {
                case ADD:
                    return Fraction.sum(x, y);
                case SUB:
                    return Fraction.difference(x, y);
                case MUL:
                    return Fraction.product(x, y);
                default:
                    return Fraction.quotient(x, y);
            }
        }

        private int findNumber(int what) {
            switch (what) {
                case 0:
                    return error;
                case 1:
                    return error == NO_ERROR ? NONE : errorStream;
                case 2:
                    return error == NO_ERROR ? NONE : errorToken;
                case 3:
                    return counted;
                case 4:
                    return items.count;
                case 5:
                    return deepest;
                default:
                    return frames[0].size;
            }
        }

        private int findOperand(int index, int part) {
            int size = frames[0].size;
            return index >= 0 && index < size ? findPart(frames[0].peek(size - 1 - index), part) : NONE;
        }

        private int findEntry(int entry, int part) {
            return isBetween(entry, 0, MATRIX_ENTRIES - 1) ? findPart(states[top].matrix[entry], part) : NONE;
        }

        private static int findPart(long value, int part) {
            return part == 0 ? Fraction.numerator(value) : Fraction.denominator(value);
        }

        private int findCounted(int index, int what) {
            if (index < 0 || index >= counted || index >= BUDGET_MOST) {
                return NONE;
            }
            switch (what) {
                case 0:
                    return countedStreams[index];
                case 1:
                    return countedTokens[index];
                default:
                    return countedForms[index];
            }
        }
    }
}
