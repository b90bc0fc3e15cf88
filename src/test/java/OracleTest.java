import java.util.function.LongSupplier;

/** Runs of calls, made by a seed, compared with the answers of the oracle; each object for its 512 calls. */
public final class OracleTest {
    private static final int CALLS = 512;

    /** Behind so many calls, no more forms get texts. */
    private static final int PREPARED = 280;

    private final PageInterpreter x = new PageInterpreter();
    private final Oracle o = new Oracle();
    private final Texts texts;
    private final int round;
    private int calls;

    private OracleTest(int round) {
        this.round = round;
        this.texts = new Texts(round);
    }

    public static void main(String[] args) {
        int from = args.length > 0 ? Integer.parseInt(args[0]) : 0;
        int to = args.length > 1 ? Integer.parseInt(args[1]) : 12000;
        for (int round = from; round < to && Check.wrong() < 20; round++) {
            new OracleTest(round).play();
        }
        Check.end("OracleTest");
    }

    /** Calls both, unless the object has had all calls that it is used for. */
    private void due(String call, LongSupplier oracle, LongSupplier program) {
        if (calls < CALLS) {
            calls++;
            long want = oracle.getAsLong();
            long got = program.getAsLong();
            Check.due(want == got ? call : "round " + round + ": " + call, want, got);
        }
    }

    private void play() {
        prepare();
        while (calls < CALLS && Check.wrong() < 20) {
            step();
        }
    }

    private void prepare() {
        if (texts.below(10) > 0) {
            setText(-1, texts.text(texts.below(2) == 0 ? 160 : 80));
        }
        for (int name = 0; name < 8; name++) {
            if (texts.below(9) > 0) {
                define(-1, name, name < 4 ? 2 : 1, texts.below(6));
            }
        }
        int first = texts.below(6);
        for (int i = 0; i < 6 && calls < PREPARED; i++) {
            if (texts.below(9) > 0) {
                setText((first + i) % 6, texts.text(15 + texts.below(60)));
            }
        }
        int others = texts.below(6);
        for (int i = 0; i < others; i++) {
            int kind = 1 + texts.below(2);
            define(texts.below(6), texts.nameOf(kind), kind, texts.below(6));
        }
        for (int form = 0; form < 6; form++) {
            if (texts.below(4) == 0) {
                setBox(form, texts.below(5) - 2, texts.below(5) - 2, 3 + texts.below(9), 3 + texts.below(9));
            }
        }
    }

    private void setText(int stream, String text) {
        due("clearBuffer", o::clearBuffer, x::clearBuffer);
        for (int i = 0; i < text.length(); i++) {
            int character = text.charAt(i);
            due("append", () -> o.append(character), () -> x.append(character));
        }
        due("setStream(" + stream + ") of '" + text + "'", () -> o.setStream(stream), () -> x.setStream(stream));
        due("tokenCount", () -> o.tokenCount(stream), () -> x.tokenCount(stream));
    }

    private void define(int stream, int name, int kind, int value) {
        due("define", () -> o.define(stream, name, kind, value), () -> x.define(stream, name, kind, value));
    }

    private void setBox(int form, int x0, int y0, int x1, int y1) {
        due("setBox", () -> o.setBox(form, x0, y0, x1, y1), () -> x.setBox(form, x0, y0, x1, y1));
    }

    /** A number near or in a range. */
    private int near(int least, int most) {
        return least - 1 + texts.below(most - least + 3);
    }

    private void step() {
        switch (texts.below(14)) {
            case 0 -> setText(near(-1, 5), texts.text(texts.below(8) == 0 ? 160 : 60));
            case 1 -> setText(near(-1, 5), texts.soup(40));
            case 2 -> {
                int x0 = texts.below(6) == 0 ? near(-99, 99) : texts.below(9) - 2;
                int y0 = texts.below(6) == 0 ? near(-99, 99) : texts.below(9) - 2;
                int x1 = texts.below(6) == 0 ? near(-99, 99) : x0 + texts.below(9);
                int y1 = texts.below(6) == 0 ? near(-99, 99) : y0 + texts.below(9);
                setBox(near(0, 5), x0, y0, x1, y1);
            }
            case 3 -> {
                int form = near(0, 5);
                due("removeBox", () -> o.removeBox(form), () -> x.removeBox(form));
            }
            case 4, 5 -> define(near(-1, 5), near(0, 7), near(1, 2), texts.below(2) == 0 ? near(0, 5) : near(0, 15));
            case 6 -> {
                int stream = near(-1, 5);
                int name = near(0, 7);
                due("resource", () -> o.resource(stream, name), () -> x.resource(stream, name));
                due("removeResource", () -> o.removeResource(stream, name), () -> x.removeResource(stream, name));
                due("resource", () -> o.resource(stream, name), () -> x.resource(stream, name));
            }
            case 7 -> {
                int width = near(4, 24);
                int height = near(4, 24);
                due("setSize", () -> o.setSize(width, height), () -> x.setSize(width, height));
            }
            case 8 -> {
                int budget = texts.below(3) == 0 ? near(1, 200) : 1 + texts.below(60);
                due("setBudget", () -> o.setBudget(budget), () -> x.setBudget(budget));
            }
            case 9 -> {
                int times = 1 + texts.below(8);
                for (int i = 0; i < times; i++) {
                    due("undo", o::undo, x::undo);
                }
            }
            case 10 -> {
                int character = texts.below(3) == 0 ? texts.below(300) - 20 : "1 $Asave".charAt(texts.below(8));
                due("append", () -> o.append(character), () -> x.append(character));
            }
            default -> {
                due("run", o::run, x::run);
                look(20 + texts.below(40));
            }
        }
    }

    /** Compares some of all that can be asked. */
    private void look(int asks) {
        for (int i = 0; i < asks; i++) {
            switch (texts.below(4)) {
                case 0 -> lookAtResults();
                case 1 -> lookAtCells();
                default -> lookAtItems();
            }
        }
    }

    private void lookAtResults() {
        int part = near(0, 1);
        switch (texts.below(6)) {
            case 0 -> {
                int stream = near(-1, 5);
                due("tokenCount", () -> o.tokenCount(stream), () -> x.tokenCount(stream));
            }
            case 1 -> {
                int entry = near(0, 5);
                due("matrix(" + entry + ", " + part + ")", () -> o.matrix(entry, part), () -> x.matrix(entry, part));
            }
            case 2 -> {
                int index = near(0, Math.max(0, o.result(6)));
                due("operand(" + index + ", " + part + ")", () -> o.operand(index, part), () -> x.operand(index, part));
            }
            case 3 -> {
                int index = near(0, Math.max(0, o.result(3)));
                int what = near(0, 2);
                due("trace(" + index + ", " + what + ")", () -> o.trace(index, what), () -> x.trace(index, what));
            }
            default -> {
                int what = near(0, 6);
                due("result(" + what + ")", () -> o.result(what), () -> x.result(what));
            }
        }
    }

    private void lookAtCells() {
        int column = near(0, o.state.width() - 1);
        int row = near(0, o.state.height() - 1);
        switch (texts.below(3)) {
            case 0 -> due("cell(" + column + ", " + row + ")", () -> o.cell(column, row), () -> x.cell(column, row));
            case 1 -> due("itemAt(" + column + ", " + row + ")", () -> o.itemAt(column, row),
                    () -> x.itemAt(column, row));
            default -> {
                int color = texts.below(3) == 0 ? near(0, 15) : texts.below(7);
                due("countColor(" + color + ")", () -> o.countColor(color), () -> x.countColor(color));
            }
        }
    }

    private void lookAtItems() {
        int items = Math.max(0, o.result(4));
        int item = texts.below(6) == 0 ? near(0, items) : texts.below(items + 1);
        switch (texts.below(6)) {
            case 0, 1, 2 -> {
                int what = texts.below(3) == 0 ? near(0, 8) : 7 + texts.below(2);
                due("item(" + item + ", " + what + ")", () -> o.item(item, what), () -> x.item(item, what));
            }
            case 3 -> {
                int side = near(0, 3);
                due("bound(" + item + ", " + side + ")", () -> o.bound(item, side), () -> x.bound(item, side));
            }
            case 4 -> due("doubleArea(" + item + ")", () -> o.doubleArea(item), () -> x.doubleArea(item));
            default -> {
                int point = texts.below(3) == 0 ? near(0, 24) : texts.below(6);
                int coordinate = texts.below(6) == 0 ? near(0, 1) : texts.below(2);
                due("point(" + item + ", " + point + ", " + coordinate + ")", () -> o.point(item, point, coordinate),
                        () -> x.point(item, point, coordinate));
            }
        }
    }
}
