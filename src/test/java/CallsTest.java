/** Promises 1 to 13: what is set, asked and taken back. */
public final class CallsTest {
    private static final int LEAST = Integer.MIN_VALUE;
    private static final int MOST = Integer.MAX_VALUE;

    public static void main(String[] args) {
        newObject();
        append();
        clearBuffer();
        setStream();
        tokenCount();
        boxes();
        define();
        removeResource();
        setSize();
        setBudget();
        undoOfEach();
        undoRoom();
        undoOfBoxes();
        undoKeepsBufferAndResults();
        failedCallsSaveNothing();
        Check.end("CallsTest");
    }

    private static void newObject() {
        PageInterpreter x = new PageInterpreter();
        for (int s = -1; s <= 5; s++) {
            Check.due("tokenCount of a new object", Check.NONE, x.tokenCount(s));
            for (int n = 0; n <= 7; n++) {
                Check.due("resource of a new object", Check.NONE, x.resource(s, n));
            }
        }
        for (int f = 0; f <= 5; f++) {
            Check.due("removeBox of a new object", Check.ILLEGAL, x.removeBox(f));
        }
        Check.due("undo of a new object", Check.ILLEGAL, x.undo());
        Check.due("run of a new object", Check.ILLEGAL, x.run());
        Check.due("buffer of a new object", 0, x.clearBuffer());
        noResults(x);
        Check.due("cell at the corner", Check.ILLEGAL, x.cell(11, 11));
        Check.due("cell beyond", Check.INVALID, x.cell(12, 0));
        Check.due("cell below", Check.INVALID, x.cell(0, 12));
        Check.due("budget of a new object", 120, x.setBudget(1));
    }

    private static void noResults(PageInterpreter x) {
        Check.due("result", Check.ILLEGAL, x.result(0));
        Check.due("operand", Check.ILLEGAL, x.operand(0, 0));
        Check.due("matrix", Check.ILLEGAL, x.matrix(0, 0));
        Check.due("trace", Check.ILLEGAL, x.trace(0, 0));
        Check.due("cell", Check.ILLEGAL, x.cell(0, 0));
        Check.due("countColor", Check.ILLEGAL, x.countColor(0));
        Check.due("itemAt", Check.ILLEGAL, x.itemAt(0, 0));
        Check.due("item", Check.ILLEGAL, x.item(0, 0));
        Check.due("point", Check.ILLEGAL, x.point(0, 0, 0));
        Check.due("bound", Check.ILLEGAL, x.bound(0, 0));
        Check.due("doubleArea", Check.ILLEGAL, x.doubleArea(0));
    }

    private static void append() {
        PageInterpreter x = new PageInterpreter();
        for (int wrong : new int[] {0, -1, 256, LEAST, MOST}) {
            Check.due("append(" + wrong + ")", Check.INVALID, x.append(wrong));
        }
        Check.due("append(1)", 1, x.append(1));
        Check.due("append(255)", 2, x.append(255));
        for (int i = 3; i <= 160; i++) {
            Check.due("append", i, x.append(65));
        }
        Check.due("append to a full buffer", Check.FULL, x.append(65));
        Check.due("a wrong character comes first", Check.INVALID, x.append(0));
        Check.due("clearBuffer", 160, x.clearBuffer());
        Check.due("append after it", 1, x.append(65));
        Check.due("undo after append and clearBuffer", Check.ILLEGAL, x.undo());
    }

    private static void clearBuffer() {
        PageInterpreter x = new PageInterpreter();
        Check.due("clearBuffer of an empty one", 0, x.clearBuffer());
        Check.write(x, "abc");
        Check.due("clearBuffer", 3, x.clearBuffer());
        Check.due("clearBuffer again", 0, x.clearBuffer());
    }

    private static void setStream() {
        PageInterpreter x = new PageInterpreter();
        Check.write(x, "1 pop");
        for (int wrong : new int[] {-2, 6, LEAST, MOST}) {
            Check.due("setStream(" + wrong + ")", Check.INVALID, x.setStream(wrong));
        }
        Check.due("setStream(3)", 2, x.setStream(3));
        Check.due("the buffer is empty", 0, x.clearBuffer());
        Check.write(x, "fill");
        Check.due("a wrong stream comes first", Check.INVALID, x.setStream(6));
        Check.due("setStream of no stream", -10, x.setStream(3));
        Check.due("the stream stays", 2, x.tokenCount(3));
        Check.due("the buffer is kept", 4, x.clearBuffer());
        Check.due("an empty text is a stream", 0, x.setStream(3));
        Check.due("in place of the other", 0, x.tokenCount(3));
        Check.write(x, "   ");
        Check.due("spaces are a stream", 0, x.setStream(5));
        Check.due("the others have none", Check.NONE, x.tokenCount(4));
    }

    private static void tokenCount() {
        PageInterpreter x = new PageInterpreter();
        for (int s = -1; s <= 5; s++) {
            Check.stream(x, s, "1 1 1 1 1 1 1".substring(0, 2 * s + 3));
        }
        for (int s = -1; s <= 5; s++) {
            Check.due("tokenCount(" + s + ")", s + 2, x.tokenCount(s));
        }
        for (int wrong : new int[] {-2, 6, LEAST, MOST}) {
            Check.due("tokenCount(" + wrong + ")", Check.INVALID, x.tokenCount(wrong));
        }
    }

    private static void boxes() {
        PageInterpreter x = new PageInterpreter();
        int[][] wrong = {
            {-1, 0, 0, 1, 1}, {6, 0, 0, 1, 1}, {0, -100, 0, 1, 1}, {0, 0, -100, 1, 1}, {0, 0, 0, 0, 1},
            {0, 0, 0, 1, 0}, {0, 0, 0, 100, 1}, {0, 0, 0, 1, 100}, {0, 99, 0, 99, 1}, {0, 0, 99, 1, 99},
            {0, 5, 0, 4, 1}, {0, LEAST, 0, 1, 1}, {0, 0, 0, MOST, 1}, {0, 100, 0, 101, 1}, {0, 0, 100, 1, 101}
        };
        for (int[] w : wrong) {
            Check.due("setBox of a wrong one", Check.INVALID, x.setBox(w[0], w[1], w[2], w[3], w[4]));
        }
        Check.due("removeBox of a wrong form", Check.INVALID, x.removeBox(-1));
        Check.due("removeBox of a wrong form", Check.INVALID, x.removeBox(6));
        for (int f = 0; f <= 5; f++) {
            Check.due("removeBox of none", Check.ILLEGAL, x.removeBox(f));
            Check.due("setBox", 0, x.setBox(f, -99, -99, 99, 99));
            Check.due("setBox again", 1, x.setBox(f, 98, 98, 99, 99));
            Check.due("removeBox", 1, x.removeBox(f));
            Check.due("removeBox again", Check.ILLEGAL, x.removeBox(f));
            Check.due("setBox after it", 0, x.setBox(f, -99, -99, -98, -98));
        }
    }

    private static void define() {
        PageInterpreter x = new PageInterpreter();
        int[][] wrong = {
            {-2, 0, 1, 0}, {6, 0, 1, 0}, {0, -1, 1, 0}, {0, 8, 1, 0}, {0, 0, 0, 0}, {0, 0, 3, 0},
            {0, 0, 1, -1}, {0, 0, 1, 16}, {0, 0, 2, -1}, {0, 0, 2, 6}, {0, 0, 2, 15}, {LEAST, 0, 1, 0}, {0, MOST, 1, 0}
        };
        for (int[] w : wrong) {
            Check.due("define of a wrong one", Check.INVALID, x.define(w[0], w[1], w[2], w[3]));
        }
        for (int s = -1; s <= 5; s++) {
            for (int n = 0; n <= 7; n++) {
                Check.due("define", 0, x.define(s, n, 1, s + n + 1));
            }
        }
        for (int s = -1; s <= 5; s++) {
            for (int n = 0; n <= 7; n++) {
                Check.due("resource", 100 + s + n + 1, x.resource(s, n));
            }
        }
        Check.due("define of the greatest colour", 1, x.define(-1, 0, 1, 15));
        Check.due("resource", 115, x.resource(-1, 0));
        Check.due("define of the greatest form", 1, x.define(-1, 0, 2, 5));
        Check.due("resource", 205, x.resource(-1, 0));
        Check.due("define of the least form", 1, x.define(-1, 0, 2, 0));
        Check.due("resource", 200, x.resource(-1, 0));
        for (int[] w : new int[][] {{-2, 0}, {6, 0}, {0, -1}, {0, 8}, {LEAST, 0}, {0, MOST}}) {
            Check.due("resource of a wrong one", Check.INVALID, x.resource(w[0], w[1]));
        }
    }

    private static void removeResource() {
        PageInterpreter x = new PageInterpreter();
        for (int[] w : new int[][] {{-2, 0}, {6, 0}, {0, -1}, {0, 8}, {LEAST, 0}, {0, MOST}}) {
            Check.due("removeResource of a wrong one", Check.INVALID, x.removeResource(w[0], w[1]));
        }
        Check.due("removeResource of none", Check.ILLEGAL, x.removeResource(5, 7));
        Check.due("define", 0, x.define(5, 7, 2, 3));
        Check.due("define", 0, x.define(-1, 7, 1, 0));
        Check.due("removeResource", 203, x.removeResource(5, 7));
        Check.due("removeResource again", Check.ILLEGAL, x.removeResource(5, 7));
        Check.due("resource after it", Check.NONE, x.resource(5, 7));
        Check.due("the other is there", 100, x.resource(-1, 7));
        Check.due("define after it", 0, x.define(5, 7, 1, 1));
        Check.due("removeResource of the page's", 100, x.removeResource(-1, 7));
    }

    private static void setSize() {
        PageInterpreter x = Check.ran("", 0);
        for (int[] w : new int[][] {{3, 4}, {4, 3}, {25, 4}, {4, 25}, {LEAST, 4}, {4, MOST}}) {
            Check.due("setSize of a wrong one", Check.INVALID, x.setSize(w[0], w[1]));
        }
        Check.due("setSize", 96, x.setSize(4, 24));
        Check.due("cell", 0, x.cell(3, 23));
        Check.due("cell beyond", Check.INVALID, x.cell(4, 0));
        Check.due("setSize", 96, x.setSize(24, 4));
        Check.due("cell", 0, x.cell(23, 3));
        Check.due("cell below", Check.INVALID, x.cell(0, 4));
        Check.due("countColor(0)", 96, x.countColor(0));
    }

    private static void setBudget() {
        PageInterpreter x = new PageInterpreter();
        for (int wrong : new int[] {0, -1, 201, LEAST, MOST}) {
            Check.due("setBudget(" + wrong + ")", Check.INVALID, x.setBudget(wrong));
        }
        Check.due("setBudget", 120, x.setBudget(200));
        Check.due("setBudget", 200, x.setBudget(1));
        Check.due("setBudget", 1, x.setBudget(1));
    }

    private static void undoOfEach() {
        PageInterpreter x = new PageInterpreter();
        Check.stream(x, 2, "1 2");
        Check.stream(x, 2, "1 2 3");
        Check.due("undo of setStream", 1, x.undo());
        Check.due("tokenCount", 2, x.tokenCount(2));
        Check.due("undo of setStream", 0, x.undo());
        Check.due("tokenCount", Check.NONE, x.tokenCount(2));
        Check.due("undo of nothing", Check.ILLEGAL, x.undo());

        Check.due("setBox", 0, x.setBox(1, 0, 0, 1, 1));
        Check.due("undo of setBox", 0, x.undo());
        Check.due("removeBox", Check.ILLEGAL, x.removeBox(1));
        Check.due("setBox", 0, x.setBox(1, 0, 0, 1, 1));
        Check.due("removeBox", 1, x.removeBox(1));
        Check.due("undo of removeBox", 1, x.undo());
        Check.due("setBox again", 1, x.setBox(1, 0, 0, 1, 1));

        Check.due("define", 0, x.define(0, 0, 1, 5));
        Check.due("define", 1, x.define(0, 0, 1, 6));
        Check.due("undo of define", 3, x.undo());
        Check.due("resource", 105, x.resource(0, 0));
        Check.due("removeResource", 105, x.removeResource(0, 0));
        Check.due("undo of removeResource", 3, x.undo());
        Check.due("resource", 105, x.resource(0, 0));

        Check.due("setSize", 20, x.setSize(4, 5));
        Check.due("undo of setSize", 3, x.undo());
        Check.due("cell", Check.ILLEGAL, x.cell(11, 11));
        Check.due("setBudget", 120, x.setBudget(7));
        Check.due("undo of setBudget", 3, x.undo());
        Check.due("setBudget", 120, x.setBudget(8));
    }

    private static void undoRoom() {
        PageInterpreter x = new PageInterpreter();
        for (int i = 1; i <= 9; i++) {
            Check.due("setBudget", i == 1 ? 120 : i - 1, x.setBudget(i));
        }
        for (int left = 5; left >= 0; left--) {
            Check.due("undo", left, x.undo());
        }
        Check.due("the seventh undo", Check.ILLEGAL, x.undo());
        Check.due("the oldest that was kept", 3, x.setBudget(3));
        Check.due("an edit that changes nothing is saved too", 0, x.undo());
        for (int round = 0; round < 3; round++) {
            for (int i = 0; i < 9; i++) {
                Check.stream(x, 1, "1 ".repeat(i));
            }
            for (int left = 5; left >= 0; left--) {
                Check.due("undo", left, x.undo());
                Check.due("tokenCount", left + 2, x.tokenCount(1));
            }
            Check.due("the seventh undo", Check.ILLEGAL, x.undo());
        }
    }

    private static void undoOfBoxes() {
        PageInterpreter x = Check.page("$A draw");
        Check.stream(x, 0, "-9 -9 50 50 rect fill");
        Check.due("define", 0, x.define(-1, 0, 2, 0));
        Check.due("setBox", 0, x.setBox(0, 1, 2, 3, 5));
        Check.due("setBox", 1, x.setBox(0, 0, 0, 9, 9));
        x.run();
        Check.due("countColor(1)", 81, x.countColor(1));
        Check.due("undo", 4, x.undo());
        x.run();
        Check.due("countColor(1)", 6, x.countColor(1));
        Check.due("cell(1, 2)", 1, x.cell(1, 2));
        Check.due("undo", 3, x.undo());
        x.run();
        Check.due("countColor(1)", 144, x.countColor(1));
        for (int f = 0; f <= 5; f++) {
            Check.due("setBox", 0, x.setBox(f, 0, 0, 1, 1));
            x.undo();
            Check.due("removeBox after the undo of setBox", Check.ILLEGAL, x.removeBox(f));
        }
    }

    private static void undoKeepsBufferAndResults() {
        PageInterpreter x = Check.ran("7", 0);
        Check.write(x, "abc");
        Check.due("undo", 0, x.undo());
        Check.due("the page is gone", Check.NONE, x.tokenCount(-1));
        Check.due("the operand stays", 7, x.operand(0, 0));
        Check.due("run", Check.ILLEGAL, x.run());
        Check.due("the operand stays", 7, x.operand(0, 0));
        Check.due("the buffer stays", 3, x.clearBuffer());
    }

    private static void failedCallsSaveNothing() {
        PageInterpreter x = new PageInterpreter();
        Check.write(x, "fill");
        x.setStream(0);
        x.setStream(9);
        x.setBox(0, 0, 0, 0, 0);
        x.removeBox(0);
        x.define(0, 0, 3, 0);
        x.removeResource(0, 0);
        x.setSize(0, 0);
        x.setBudget(0);
        x.run();
        x.tokenCount(0);
        x.resource(0, 0);
        Check.due("undo", Check.ILLEGAL, x.undo());
    }
}
