/** Runs of calls, made by a seed, compared with the answers of the oracle. */
public final class OracleTest {
    private final PageInterpreter x = new PageInterpreter();
    private final Oracle o = new Oracle();
    private final Texts texts;
    private final int round;

    private OracleTest(int round) {
        this.round = round;
        this.texts = new Texts(round);
    }

    public static void main(String[] args) {
        int from = args.length > 0 ? Integer.parseInt(args[0]) : 0;
        int to = args.length > 1 ? Integer.parseInt(args[1]) : 4000;
        for (int round = from; round < to && Check.wrong() < 20; round++) {
            new OracleTest(round).play();
        }
        Check.end("OracleTest");
    }

    private void due(String call, long want, long got) {
        if (want != got) {
            Check.due("round " + round + ": " + call, want, got);
            return;
        }
        Check.due(call, want, got);
    }

    private void play() {
        prepare();
        int steps = 4 + texts.below(12);
        for (int i = 0; i < steps && Check.wrong() < 20; i++) {
            step();
        }
        look();
    }

    private void prepare() {
        if (texts.below(10) > 0) {
            setText(-1, texts.text(160));
        }
        for (int form = 0; form < 6; form++) {
            if (texts.below(9) > 0) {
                setText(form, texts.text(20 + texts.below(60)));
            }
        }
        for (int name = 0; name < 8; name++) {
            if (texts.below(9) > 0) {
                define(-1, name, name < 4 ? 2 : 1, texts.below(6));
            }
        }
        int others = texts.below(6);
        for (int i = 0; i < others; i++) {
            int kind = 1 + texts.below(2);
            define(texts.below(6), texts.nameOf(kind), kind, texts.below(6));
        }
        for (int form = 0; form < 6; form++) {
            if (texts.below(4) == 0) {
                setBox(form, texts.below(5) - 2, texts.below(5) - 2, 3 + texts.below(9), 3 + texts.below(9));
            }
        }
    }

    private void setText(int stream, String text) {
        due("clearBuffer", o.clearBuffer(), x.clearBuffer());
        for (int i = 0; i < text.length(); i++) {
            due("append", o.append(text.charAt(i)), x.append(text.charAt(i)));
        }
        due("setStream(" + stream + ") of '" + text + "'", o.setStream(stream), x.setStream(stream));
        due("tokenCount", o.tokenCount(stream), x.tokenCount(stream));
    }

    private void define(int stream, int name, int kind, int value) {
        due("define", o.define(stream, name, kind, value), x.define(stream, name, kind, value));
    }

    private void setBox(int form, int x0, int y0, int x1, int y1) {
        due("setBox", o.setBox(form, x0, y0, x1, y1), x.setBox(form, x0, y0, x1, y1));
    }

    /** A number near or in a range. */
    private int near(int least, int most) {
        return least - 1 + texts.below(most - least + 3);
    }

    private void step() {
        switch (texts.below(14)) {
            case 0 -> setText(near(-1, 5), texts.text(160));
            case 1 -> setText(near(-1, 5), texts.soup(60));
            case 2 -> {
                int form = near(0, 5);
                int x0 = texts.below(6) == 0 ? near(-99, 99) : texts.below(9) - 2;
                int y0 = texts.below(6) == 0 ? near(-99, 99) : texts.below(9) - 2;
                int x1 = texts.below(6) == 0 ? near(-99, 99) : x0 + texts.below(9);
                int y1 = texts.below(6) == 0 ? near(-99, 99) : y0 + texts.below(9);
                setBox(form, x0, y0, x1, y1);
            }
            case 3 -> {
                int form = near(0, 5);
                due("removeBox", o.removeBox(form), x.removeBox(form));
            }
            case 4, 5 -> define(near(-1, 5), near(0, 7), near(1, 2), texts.below(2) == 0 ? near(0, 5) : near(0, 15));
            case 6 -> {
                int stream = near(-1, 5);
                int name = near(0, 7);
                due("resource", o.resource(stream, name), x.resource(stream, name));
                due("removeResource", o.removeResource(stream, name), x.removeResource(stream, name));
                due("resource", o.resource(stream, name), x.resource(stream, name));
            }
            case 7 -> {
                int width = near(4, 24);
                int height = near(4, 24);
                due("setSize", o.setSize(width, height), x.setSize(width, height));
            }
            case 8 -> {
                int budget = texts.below(3) == 0 ? near(1, 200) : 1 + texts.below(60);
                due("setBudget", o.setBudget(budget), x.setBudget(budget));
            }
            case 9 -> {
                int times = 1 + texts.below(8);
                for (int i = 0; i < times; i++) {
                    due("undo", o.undo(), x.undo());
                }
            }
            case 10 -> {
                int character = texts.below(3) == 0 ? texts.below(300) - 20 : "1 $Asave".charAt(texts.below(8));
                due("append", o.append(character), x.append(character));
            }
            default -> {
                due("run", o.run(), x.run());
                look();
            }
        }
    }

    /** Compares all that can be asked. */
    private void look() {
        for (int s = -2; s <= 6; s++) {
            due("tokenCount", o.tokenCount(s), x.tokenCount(s));
            for (int n = -1; n <= 8; n++) {
                due("resource", o.resource(s, n), x.resource(s, n));
            }
        }
        for (int i = -1; i <= 7; i++) {
            due("result(" + i + ")", o.result(i), x.result(i));
            for (int part = -1; part <= 2; part++) {
                due("matrix(" + i + ", " + part + ")", o.matrix(i, part), x.matrix(i, part));
            }
        }
        for (int i = -1; i <= 17; i++) {
            for (int part = -1; part <= 2; part++) {
                due("operand(" + i + ", " + part + ")", o.operand(i, part), x.operand(i, part));
            }
        }
        for (int i = -1; i <= Math.max(0, o.result(3)); i++) {
            for (int what = -1; what <= 3; what++) {
                due("trace(" + i + ", " + what + ")", o.trace(i, what), x.trace(i, what));
            }
        }
        lookAtCells();
        lookAtItems();
    }

    private void lookAtCells() {
        for (int px = -1; px <= o.state.width(); px++) {
            for (int py = -1; py <= o.state.height(); py++) {
                due("cell(" + px + ", " + py + ")", o.cell(px, py), x.cell(px, py));
                due("itemAt(" + px + ", " + py + ")", o.itemAt(px, py), x.itemAt(px, py));
            }
        }
        for (int color = -1; color <= 16; color++) {
            due("countColor(" + color + ")", o.countColor(color), x.countColor(color));
        }
    }

    private void lookAtItems() {
        int items = Math.max(0, o.result(4));
        for (int i = -1; i <= items; i++) {
            for (int what = -1; what <= 9; what++) {
                due("item(" + i + ", " + what + ")", o.item(i, what), x.item(i, what));
            }
            for (int side = -1; side <= 4; side++) {
                due("bound(" + i + ", " + side + ")", o.bound(i, side), x.bound(i, side));
            }
            due("doubleArea(" + i + ")", o.doubleArea(i), x.doubleArea(i));
            for (int point = -1; point <= 25; point++) {
                for (int c = -1; c <= 2; c++) {
                    due("point(" + i + ", " + point + ", " + c + ")", o.point(i, point, c), x.point(i, point, c));
                }
            }
        }
    }
}
