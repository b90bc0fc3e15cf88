import java.math.BigInteger;
import java.util.ArrayDeque;
import java.util.ArrayList;
import java.util.Deque;
import java.util.HashMap;
import java.util.List;
import java.util.Map;
import java.util.regex.Matcher;
import java.util.regex.Pattern;

/**
 * The document once more, in a form that has nothing in common with the program: texts and patterns,
 * recursion, big integers, and copies of everything. It is slow and wasteful, and used by tests alone.
 */
final class Oracle {
    static final int INVALID = -10000001;
    static final int ILLEGAL = -10000002;
    static final int FULL = -10000003;
    static final int NONE = -10000009;

    record Ratio(BigInteger n, BigInteger d) {
        static Ratio of(BigInteger n, BigInteger d) throws Stop {
            BigInteger g = n.gcd(d);
            if (d.signum() < 0) {
                g = g.negate();
            }
            Ratio r = new Ratio(n.divide(g), d.divide(g));
            BigInteger most = BigInteger.valueOf(1000000);
            if (r.n.abs().compareTo(most) > 0 || r.d.compareTo(most) > 0) {
                throw new Stop(6);
            }
            return r;
        }

        static Ratio of(long n) throws Stop {
            return of(BigInteger.valueOf(n), BigInteger.ONE);
        }

        Ratio plus(Ratio o) throws Stop {
            return of(n.multiply(o.d).add(o.n.multiply(d)), d.multiply(o.d));
        }

        Ratio minus(Ratio o) throws Stop {
            return of(n.multiply(o.d).subtract(o.n.multiply(d)), d.multiply(o.d));
        }

        Ratio times(Ratio o) throws Stop {
            return of(n.multiply(o.n), d.multiply(o.d));
        }

        Ratio by(Ratio o) throws Stop {
            return of(n.multiply(o.d), d.multiply(o.n));
        }

        boolean integerIn(int least, int most) {
            return d.equals(BigInteger.ONE) && n.compareTo(BigInteger.valueOf(least)) >= 0
                    && n.compareTo(BigInteger.valueOf(most)) <= 0;
        }

        int device() throws Stop {
            BigInteger[] q = n.multiply(BigInteger.valueOf(32)).add(d).divideAndRemainder(d.shiftLeft(1));
            BigInteger floor = q[1].signum() < 0 ? q[0].subtract(BigInteger.ONE) : q[0];
            if (floor.abs().compareTo(BigInteger.valueOf(16000)) > 0) {
                throw new Stop(6);
            }
            return floor.intValue();
        }
    }

    /** An error of a run. */
    static final class Stop extends Exception {
        private static final long serialVersionUID = 1;
        final int kind;

        Stop(int kind) {
            super(null, null, false, false);
            this.kind = kind;
        }
    }

    /** A token with the offset of its first character. */
    record Token(String text, int offset) {
        boolean isName() {
            return text.matches("\\$[A-H]");
        }

        boolean isNumber() {
            return text.matches("-?(0|[1-9][0-9]{0,2})(/[2-9])?");
        }

        Object value() throws Stop {
            if (isName()) {
                return text.charAt(1) - 'A';
            }
            String[] parts = text.split("/");
            return Ratio.of(new BigInteger(parts[0]), new BigInteger(parts.length == 2 ? parts[1] : "1"));
        }
    }

    record Path(List<List<int[]>> parts) {
        int points() {
            return parts.stream().mapToInt(List::size).sum();
        }

        boolean covers(int x, int y, boolean odd) {
            int sum = 0;
            for (List<int[]> part : parts) {
                for (int i = 0; i < part.size(); i++) {
                    int[] p = part.get(i);
                    int[] q = part.get((i + 1) % part.size());
                    boolean up = p[1] <= y && q[1] > y;
                    boolean down = q[1] <= y && p[1] > y;
                    if (up || down) {
                        BigInteger height = BigInteger.valueOf(q[1] - p[1]);
                        BigInteger over = BigInteger.valueOf(y - p[1]).multiply(BigInteger.valueOf(q[0] - p[0]));
                        // X1 + over / height > x
                        BigInteger left = BigInteger.valueOf(p[0] - x).multiply(height).add(over);
                        if (left.signum() * height.signum() > 0) {
                            sum += up ? 1 : -1;
                        }
                    }
                }
            }
            return odd ? sum % 2 != 0 : sum != 0;
        }
    }

    record Clip(Path path, boolean odd) { }

    record Graphics(List<Ratio> m, int color, List<Clip> clips) { }

    record Item(Path path, boolean odd, int color, List<Clip> clips, int stream, int token) {
        boolean covers(int x, int y) {
            int cx = 16 * x + 8;
            int cy = 16 * y + 8;
            return path.covers(cx, cy, odd) && clips.stream().allMatch(c -> c.path.covers(cx, cy, c.odd));
        }
    }

    record State(Map<Integer, List<Token>> streams, Map<Integer, int[]> boxes, Map<String, Integer> resources,
            int width, int height, int budget) { }

    /** What is left of a run. */
    static final class Run {
        int kind;
        int stream = NONE;
        int token = NONE;
        int deepest;
        List<int[]> trace = new ArrayList<>();
        List<Item> items = new ArrayList<>();
        List<Object> pageOperands = new ArrayList<>();
        Graphics graphics;
        List<Integer> executed = new ArrayList<>();
        Path path;
        List<int[]> part;
        Clip mark;
    }

    String buffer = "";
    State state = new State(new HashMap<>(), new HashMap<>(), new HashMap<>(), 12, 12, 120);
    Deque<State> saved = new ArrayDeque<>();
    Run latest;

    // ---- calls

    int append(int c) {
        if (c < 1 || c > 255) {
            return INVALID;
        }
        if (buffer.length() == 160) {
            return FULL;
        }
        buffer += (char) c;
        return buffer.length();
    }

    int clearBuffer() {
        int n = buffer.length();
        buffer = "";
        return n;
    }

    private void edit() {
        saved.addLast(new State(new HashMap<>(state.streams), new HashMap<>(state.boxes),
                new HashMap<>(state.resources), state.width, state.height, state.budget));
        if (saved.size() > 6) {
            saved.removeFirst();
        }
    }

    private static boolean in(int v, int least, int most) {
        return v >= least && v <= most;
    }

    int setStream(int s) {
        if (!in(s, -1, 5)) {
            return INVALID;
        }
        List<Token> tokens = tokens(buffer);
        int error = errorPosition(tokens, buffer.length());
        if (error >= 0) {
            return -10 - error;
        }
        edit();
        state.streams.put(s, tokens);
        buffer = "";
        return tokens.size();
    }

    int tokenCount(int s) {
        return !in(s, -1, 5) ? INVALID : state.streams.containsKey(s) ? state.streams.get(s).size() : NONE;
    }

    int setBox(int f, int x0, int y0, int x1, int y1) {
        if (!in(f, 0, 5) || !in(x0, -99, 99) || !in(y0, -99, 99) || x1 <= x0 || x1 > 99 || y1 <= y0 || y1 > 99) {
            return INVALID;
        }
        edit();
        return state.boxes.put(f, new int[] {x0, y0, x1, y1}) == null ? 0 : 1;
    }

    int removeBox(int f) {
        if (!in(f, 0, 5)) {
            return INVALID;
        }
        if (!state.boxes.containsKey(f)) {
            return ILLEGAL;
        }
        edit();
        state.boxes.remove(f);
        return 1;
    }

    int define(int s, int name, int kind, int value) {
        if (!in(s, -1, 5) || !in(name, 0, 7) || !in(kind, 1, 2) || !in(value, 0, kind == 1 ? 15 : 5)) {
            return INVALID;
        }
        edit();
        return state.resources.put(s + ":" + name, 100 * kind + value) == null ? 0 : 1;
    }

    int removeResource(int s, int name) {
        int r = resource(s, name);
        if (r == INVALID) {
            return INVALID;
        }
        if (r == NONE) {
            return ILLEGAL;
        }
        edit();
        state.resources.remove(s + ":" + name);
        return r;
    }

    int resource(int s, int name) {
        return in(s, -1, 5) && in(name, 0, 7) ? state.resources.getOrDefault(s + ":" + name, NONE) : INVALID;
    }

    int setSize(int w, int h) {
        if (!in(w, 4, 24) || !in(h, 4, 24)) {
            return INVALID;
        }
        edit();
        state = new State(state.streams, state.boxes, state.resources, w, h, state.budget);
        return w * h;
    }

    int setBudget(int b) {
        if (!in(b, 1, 200)) {
            return INVALID;
        }
        edit();
        int old = state.budget;
        state = new State(state.streams, state.boxes, state.resources, state.width, state.height, b);
        return old;
    }

    int undo() {
        if (saved.isEmpty()) {
            return ILLEGAL;
        }
        state = saved.removeLast();
        return saved.size();
    }

    // ---- texts

    private static final Pattern TOKEN = Pattern.compile("([0-9/-]+|\\$.|\\$|[a-z]+|[^ ])", Pattern.DOTALL);

    static List<Token> tokens(String text) {
        List<Token> tokens = new ArrayList<>();
        Matcher m = TOKEN.matcher(text);
        while (m.find()) {
            tokens.add(new Token(m.group(), m.start()));
        }
        return tokens;
    }

    private static final List<String> ANYWHERE = List.of("pop", "dup", "exch", "add", "sub", "mul", "div");
    private static final List<String> IN_PATH =
            List.of("move", "line", "close", "rect", "clip", "xclip", "fill", "xfill", "drop");
    private static final List<String> BEGIN_PATH = List.of("move", "rect");
    private static final List<String> OUT_OF_PATH =
            List.of("save", "restore", "concat", "color", "draw", "repeat", "next");

    /** Looks at each token together with all that stands before it. */
    static int errorPosition(List<Token> tokens, int length) {
        for (int i = 0; i < tokens.size(); i++) {
            if (!allowed(tokens.get(i), tokens.subList(0, i))) {
                return tokens.get(i).offset;
            }
        }
        return pathSoFar(tokens).isEmpty() && open(tokens).isEmpty() ? -1 : length;
    }

    /** The path operators from the beginning of the path that is open at the end, or none. */
    private static List<String> pathSoFar(List<Token> before) {
        List<String> path = new ArrayList<>();
        for (Token t : before) {
            if (List.of("fill", "xfill", "drop").contains(t.text)) {
                path.clear();
            } else if (IN_PATH.contains(t.text)) {
                path.add(t.text);
            }
        }
        return path;
    }

    private static List<String> open(List<Token> before) {
        List<String> open = new ArrayList<>();
        for (Token t : before) {
            if (t.text.equals("save") || t.text.equals("repeat")) {
                open.add(t.text);
            } else if (t.text.equals("restore") || t.text.equals("next")) {
                open.remove(open.size() - 1);
            }
        }
        return open;
    }

    private static boolean allowed(Token t, List<Token> before) {
        List<String> path = pathSoFar(before);
        if (t.isNumber()) {
            return true;
        }
        if (t.isName()) {
            return path.isEmpty();
        }
        if (ANYWHERE.contains(t.text)) {
            return true;
        }
        List<String> open = open(before);
        if (OUT_OF_PATH.contains(t.text)) {
            if (!path.isEmpty()) {
                return false;
            }
            String last = open.isEmpty() ? "" : open.get(open.size() - 1);
            return switch (t.text) {
                case "save" -> open.stream().filter(o -> o.equals("save")).count() < 6;
                case "repeat" -> open.stream().filter(o -> o.equals("repeat")).count() < 3;
                case "restore" -> last.equals("save");
                case "next" -> last.equals("repeat");
                default -> true;
            };
        }
        if (!IN_PATH.contains(t.text)) {
            return false;
        }
        if (path.isEmpty()) {
            return BEGIN_PATH.contains(t.text);
        }
        if (t.text.equals("clip") || t.text.equals("xclip")) {
            return !path.contains("clip") && !path.contains("xclip");
        }
        if (t.text.equals("line") || t.text.equals("close")) {
            int begun = path.lastIndexOf("move");
            int ended = Math.max(path.lastIndexOf("rect"), path.lastIndexOf("close"));
            return begun > ended;
        }
        return true;
    }

    // ---- running

    int run() {
        if (!state.streams.containsKey(-1)) {
            return ILLEGAL;
        }
        Run r = new Run();
        try {
            r.graphics = new Graphics(List.of(Ratio.of(1), Ratio.of(0), Ratio.of(0), Ratio.of(1), Ratio.of(0),
                    Ratio.of(0)), 1, List.of());
            r.executed.add(-1);
            execute(r, -1, r.pageOperands);
        } catch (Stop stop) {
            r.kind = stop.kind;
        }
        latest = r;
        return r.kind;
    }

    private void execute(Run r, int stream, List<Object> operands) throws Stop {
        span(r, stream, operands, 0, state.streams.get(stream).size(), new ArrayDeque<>());
    }

    /** Executes the tokens of a stream from one number to before another. */
    private void span(Run r, int stream, List<Object> operands, int from, int to, Deque<Graphics> copies)
            throws Stop {
        List<Token> tokens = state.streams.get(stream);
        for (int i = from; i < to; i++) {
            Token t = tokens.get(i);
            try {
                if (t.isName() || t.isNumber()) {
                    if (operands.size() == 16) {
                        throw new Stop(6);
                    }
                    operands.add(t.value());
                    continue;
                }
                if (t.text.equals("next")) {
                    continue;
                }
                if (r.trace.size() >= state.budget) {
                    throw new Stop(1);
                }
                operator(r, stream, operands, t.text, i, copies);
            } catch (Stop stop) {
                if (r.token == NONE) {
                    r.stream = stream;
                    r.token = i;
                }
                throw stop;
            }
            if (t.text.equals("repeat")) {
                int times = ((Ratio) operands.remove(operands.size() - 1)).n.intValue();
                int next = next(tokens, i);
                for (int k = 0; k < times; k++) {
                    span(r, stream, operands, i + 1, next, copies);
                }
                i = next;
            } else if (t.text.equals("draw")) {
                int form = find(r, (Integer) operands.remove(operands.size() - 1), 2);
                Graphics copy = r.graphics;
                if (state.boxes.containsKey(form)) {
                    r.graphics = withClip(copy, new Clip(boxPath(copy, form), false));
                }
                r.executed.add(form);
                r.deepest = Math.max(r.deepest, r.executed.size() - 1);
                execute(r, form, new ArrayList<>());
                r.executed.remove(r.executed.size() - 1);
                r.graphics = copy;
            }
        }
    }

    private static int next(List<Token> tokens, int repeat) {
        int level = 0;
        for (int i = repeat; ; i++) {
            if (tokens.get(i).text.equals("repeat")) {
                level++;
            } else if (tokens.get(i).text.equals("next") && --level == 0) {
                return i;
            }
        }
    }

    private static Graphics withClip(Graphics g, Clip clip) throws Stop {
        if (g.clips.size() == 6) {
            throw new Stop(6);
        }
        List<Clip> clips = new ArrayList<>(g.clips);
        clips.add(clip);
        return new Graphics(g.m, g.color, clips);
    }

    private static int[] device(Graphics g, Ratio x, Ratio y) throws Stop {
        List<Ratio> m = g.m;
        int dx = m.get(0).times(x).plus(m.get(2).times(y)).plus(m.get(4)).device();
        int dy = m.get(1).times(x).plus(m.get(3).times(y)).plus(m.get(5)).device();
        return new int[] {dx, dy};
    }

    private Path boxPath(Graphics g, int form) throws Stop {
        int[] b = state.boxes.get(form);
        return new Path(List.of(List.of(
                device(g, Ratio.of(b[0]), Ratio.of(b[1])), device(g, Ratio.of(b[2]), Ratio.of(b[1])),
                device(g, Ratio.of(b[2]), Ratio.of(b[3])), device(g, Ratio.of(b[0]), Ratio.of(b[3])))));
    }

    private int find(Run r, int name, int kind) throws Stop {
        for (int i = r.executed.size() - 1; i >= 0; i--) {
            Integer found = state.resources.get(r.executed.get(i) + ":" + name);
            if (found != null) {
                if (found / 100 != kind) {
                    throw new Stop(3);
                }
                return found % 100;
            }
        }
        throw new Stop(3);
    }

    private static Ratio[] numbers(List<Object> operands, int count) throws Stop {
        if (operands.size() < count) {
            throw new Stop(2);
        }
        Ratio[] taken = new Ratio[count];
        for (int i = 0; i < count; i++) {
            if (!(operands.get(operands.size() - count + i) instanceof Ratio ratio)) {
                throw new Stop(2);
            }
            taken[i] = ratio;
        }
        return taken;
    }

    private static void replace(List<Object> operands, int count, Object... results) throws Stop {
        if (operands.size() - count + results.length > 16) {
            throw new Stop(6);
        }
        for (int i = 0; i < count; i++) {
            operands.remove(operands.size() - 1);
        }
        operands.addAll(List.of(results));
    }

    private static void any(List<Object> operands, int count) throws Stop {
        if (operands.size() < count) {
            throw new Stop(2);
        }
    }

    private static void room(Run r, int points) throws Stop {
        int present = r.path == null ? 0 : r.path.points();
        if (present + points > 24) {
            throw new Stop(6);
        }
    }

    private static void point(Run r, int[] p, boolean begins) {
        if (r.path == null) {
            r.path = new Path(new ArrayList<>());
        }
        if (begins) {
            r.path.parts.add(new ArrayList<>());
        }
        r.path.parts.get(r.path.parts.size() - 1).add(p);
    }

    /** Executes an operator; draw and repeat are only looked at here, their operands left in place. */
    private void operator(Run r, int stream, List<Object> operands, String word, int token,
            Deque<Graphics> copies) throws Stop {
        Graphics g = r.graphics;
        int size = operands.size();
        switch (word) {
            case "save" -> copies.push(g);
            case "restore" -> r.graphics = copies.pop();
            case "concat" -> {
                Ratio[] a = numbers(operands, 6);
                List<Ratio> b = g.m;
                List<Ratio> product = List.of(
                        a[0].times(b.get(0)).plus(a[1].times(b.get(2))),
                        a[0].times(b.get(1)).plus(a[1].times(b.get(3))),
                        a[2].times(b.get(0)).plus(a[3].times(b.get(2))),
                        a[2].times(b.get(1)).plus(a[3].times(b.get(3))),
                        a[4].times(b.get(0)).plus(a[5].times(b.get(2))).plus(b.get(4)),
                        a[4].times(b.get(1)).plus(a[5].times(b.get(3))).plus(b.get(5)));
                replace(operands, 6);
                r.graphics = new Graphics(product, g.color, g.clips);
            }
            case "move", "line" -> {
                Ratio[] a = numbers(operands, 2);
                room(r, 1);
                int[] p = device(g, a[0], a[1]);
                replace(operands, 2);
                point(r, p, word.equals("move"));
            }
            case "rect" -> {
                Ratio[] a = numbers(operands, 4);
                room(r, 4);
                Ratio x = a[0].plus(a[2]);
                Ratio y = a[1].plus(a[3]);
                int[][] p = {device(g, a[0], a[1]), device(g, x, a[1]), device(g, x, y), device(g, a[0], y)};
                replace(operands, 4);
                for (int i = 0; i < 4; i++) {
                    point(r, p[i], i == 0);
                }
            }
            case "clip", "xclip" -> r.mark = new Clip(r.path, word.equals("xclip"));
            case "fill", "xfill", "drop" -> {
                boolean paints = !word.equals("drop");
                if (paints && r.items.size() == 30) {
                    throw new Stop(6);
                }
                if (r.mark != null) {
                    r.graphics = withClip(g, r.mark);
                }
                if (paints) {
                    r.items.add(new Item(r.path, word.equals("xfill"), g.color, g.clips, stream, token));
                }
                r.mark = null;
                r.path = null;
            }
            case "close" -> { }
            case "color" -> {
                any(operands, 1);
                Object v = operands.get(size - 1);
                int color;
                if (v instanceof Integer name) {
                    color = find(r, name, 1);
                } else {
                    Ratio ratio = (Ratio) v;
                    if (!ratio.integerIn(0, 15)) {
                        throw new Stop(2);
                    }
                    color = ratio.n.intValue();
                }
                replace(operands, 1);
                r.graphics = new Graphics(g.m, color, g.clips);
            }
            case "draw" -> lookAtDraw(r, operands);
            case "repeat" -> {
                if (!numbers(operands, 1)[0].integerIn(0, 9)) {
                    throw new Stop(2);
                }
            }
            case "dup" -> {
                any(operands, 1);
                replace(operands, 1, operands.get(size - 1), operands.get(size - 1));
            }
            case "pop" -> {
                any(operands, 1);
                replace(operands, 1);
            }
            case "exch" -> {
                any(operands, 2);
                replace(operands, 2, operands.get(size - 1), operands.get(size - 2));
            }
            default -> {
                Ratio[] a = numbers(operands, 2);
                if (word.equals("div") && a[1].n.signum() == 0) {
                    throw new Stop(5);
                }
                replace(operands, 2, switch (word) {
                    case "add" -> a[0].plus(a[1]);
                    case "sub" -> a[0].minus(a[1]);
                    case "mul" -> a[0].times(a[1]);
                    default -> a[0].by(a[1]);
                });
            }
        }
        r.trace.add(new int[] {stream, token, r.executed.size() - 1});
    }

    private void lookAtDraw(Run r, List<Object> operands) throws Stop {
        any(operands, 1);
        if (!(operands.get(operands.size() - 1) instanceof Integer name)) {
            throw new Stop(2);
        }
        int form = find(r, name, 2);
        if (!state.streams.containsKey(form)) {
            throw new Stop(3);
        }
        if (r.executed.contains(form)) {
            throw new Stop(4);
        }
        if (r.executed.size() == 5) {
            throw new Stop(6);
        }
        if (state.boxes.containsKey(form)) {
            withClip(r.graphics, new Clip(boxPath(r.graphics, form), false));
        }
    }

    // ---- results

    int result(int what) {
        if (!in(what, 0, 6)) {
            return INVALID;
        }
        if (latest == null) {
            return ILLEGAL;
        }
        return switch (what) {
            case 0 -> latest.kind;
            case 1 -> latest.stream;
            case 2 -> latest.token;
            case 3 -> latest.trace.size();
            case 4 -> latest.items.size();
            case 5 -> latest.deepest;
            default -> latest.pageOperands.size();
        };
    }

    int operand(int index, int part) {
        if (index < 0 || !in(part, 0, 1)) {
            return INVALID;
        }
        if (latest == null) {
            return ILLEGAL;
        }
        if (index >= latest.pageOperands.size()) {
            return NONE;
        }
        Object v = latest.pageOperands.get(index);
        if (v instanceof Integer name) {
            return part == 0 ? name : 0;
        }
        return part == 0 ? ((Ratio) v).n.intValue() : ((Ratio) v).d.intValue();
    }

    int matrix(int entry, int part) {
        if (!in(entry, 0, 5) || !in(part, 0, 1)) {
            return INVALID;
        }
        if (latest == null) {
            return ILLEGAL;
        }
        Ratio v = latest.graphics.m.get(entry);
        return part == 0 ? v.n.intValue() : v.d.intValue();
    }

    int trace(int index, int what) {
        if (index < 0 || !in(what, 0, 2)) {
            return INVALID;
        }
        if (latest == null) {
            return ILLEGAL;
        }
        return index < latest.trace.size() ? latest.trace.get(index)[what] : NONE;
    }

    private int color(int x, int y, Item without) {
        int color = 0;
        for (Item i : latest.items) {
            if (i != without && i.covers(x, y)) {
                color = i.color;
            }
        }
        return color;
    }

    int cell(int x, int y) {
        if (!in(x, 0, state.width - 1) || !in(y, 0, state.height - 1)) {
            return INVALID;
        }
        return latest == null ? ILLEGAL : color(x, y, null);
    }

    int countColor(int color) {
        if (!in(color, 0, 15)) {
            return INVALID;
        }
        if (latest == null) {
            return ILLEGAL;
        }
        int n = 0;
        for (int i = 0; i < state.width * state.height; i++) {
            n += color(i % state.width, i / state.width, null) == color ? 1 : 0;
        }
        return n;
    }

    int itemAt(int x, int y) {
        if (!in(x, 0, state.width - 1) || !in(y, 0, state.height - 1)) {
            return INVALID;
        }
        if (latest == null) {
            return ILLEGAL;
        }
        int found = NONE;
        for (int i = 0; i < latest.items.size(); i++) {
            found = latest.items.get(i).covers(x, y) ? i : found;
        }
        return found;
    }

    int item(int item, int what) {
        if (item < 0 || !in(what, 0, 8)) {
            return INVALID;
        }
        if (latest == null) {
            return ILLEGAL;
        }
        if (item >= latest.items.size()) {
            return NONE;
        }
        Item it = latest.items.get(item);
        int covered = 0;
        int changed = 0;
        for (int i = 0; i < state.width * state.height && what > 6; i++) {
            int x = i % state.width;
            int y = i / state.width;
            covered += it.covers(x, y) ? 1 : 0;
            changed += color(x, y, null) != color(x, y, it) ? 1 : 0;
        }
        return switch (what) {
            case 0 -> it.color;
            case 1 -> it.odd ? 1 : 0;
            case 2 -> it.path.parts.size();
            case 3 -> it.path.points();
            case 4 -> it.clips.size();
            case 5 -> it.stream;
            case 6 -> it.token;
            case 7 -> covered;
            default -> changed;
        };
    }

    private List<int[]> pointsOf(int item) {
        List<int[]> all = new ArrayList<>();
        latest.items.get(item).path.parts.forEach(all::addAll);
        return all;
    }

    int point(int item, int point, int coordinate) {
        if (item < 0 || point < 0 || !in(coordinate, 0, 1)) {
            return INVALID;
        }
        if (latest == null) {
            return ILLEGAL;
        }
        if (item >= latest.items.size() || point >= pointsOf(item).size()) {
            return NONE;
        }
        return pointsOf(item).get(point)[coordinate];
    }

    int bound(int item, int side) {
        if (item < 0 || !in(side, 0, 3)) {
            return INVALID;
        }
        if (latest == null) {
            return ILLEGAL;
        }
        if (item >= latest.items.size()) {
            return NONE;
        }
        var all = pointsOf(item).stream().mapToInt(p -> p[side & 1]);
        return side < 2 ? all.min().getAsInt() : all.max().getAsInt();
    }

    long doubleArea(int item) {
        if (item < 0) {
            return INVALID;
        }
        if (latest == null) {
            return ILLEGAL;
        }
        if (item >= latest.items.size()) {
            return NONE;
        }
        long sum = 0;
        for (List<int[]> part : latest.items.get(item).path.parts) {
            for (int i = 0; i < part.size(); i++) {
                int[] p = part.get(i);
                int[] q = part.get((i + 1) % part.size());
                sum += (long) p[0] * q[1] - (long) q[0] * p[1];
            }
        }
        return Math.abs(sum);
    }
}
