/** The boundary cases of runs: how forms are drawn, the error kinds, and promises 14 to 18. */
final class RunBoundaries {
    private static final int LEAST = Integer.MIN_VALUE;
    private static final int MOST = Integer.MAX_VALUE;

    private static final String RUNNING = "Running";
    private static final String P14 = "Promise 14: run";
    private static final String P15 = "Promise 15: result";
    private static final String P16 = "Promise 16: operand";
    private static final String P17 = "Promise 17: matrix";
    private static final String P18 = "Promise 18: trace";

    private static final String SIXTEEN = "1 ".repeat(16);
    private static final String THOUSAND = "500 2 mul ";
    private static final String MILLION = THOUSAND + "dup mul ";

    private RunBoundaries() { }

    static void all() {
        page();
        forms();
        formStacks();
        nesting();
        counting();
        operandRoom();
        checking();
        budgetKind();
        operandsKind();
        resourceKind();
        recursionKind();
        divisionKind();
        limitOfRoom();
        limitOfFractions();
        limitOfCoordinates();
        orderOfKinds();
        noEffect();
        sums();
        results();
        run();
        result();
        resultInForm();
        resultErrors();
        operand();
        operandErrors();
        matrix();
        trace();
        traceErrors();
    }

    private static PageInterpreter stopped(String text, int kind, int token) {
        return OperatorBoundaries.stopped(text, kind, token);
    }

    /** The page is run once more, and ends with this error. */
    private static void stops(PageInterpreter x, int kind, int stream, int token) {
        Check.due("run", kind, x.run());
        Check.due("the stream of the error", stream, x.result(1));
        Check.due("the token of the error", token, x.result(2));
    }

    /** Each stream up to the last one draws the next form; the last one has this text. */
    private static PageInterpreter chain(int last, String text) {
        PageInterpreter x = new PageInterpreter();
        for (int s = -1; s <= last; s++) {
            Check.stream(x, s, s < last ? "$A draw" : text);
            x.define(s, 0, 2, Math.min(s + 1, 5));
        }
        return x;
    }

    private static void page() {
        Sentences.held(RUNNING, "A run executes the page from its first token to its last one, with an empty operand "
                + "stack.");
        PageInterpreter x = Check.ran("", 0);
        Check.due("operands of no tokens", 0, x.result(6));
        Check.due("operators of no tokens", 0, x.result(3));
        Check.stream(x, -1, "1 2");
        for (int i = 0; i < 3; i++) {
            Check.due("run", 0, x.run());
            Check.due("operands", 2, x.result(6));
        }
        Check.stream(x, -1, "pop 1");
        stops(x, 2, -1, 0);
        Check.due("nothing of the run before", 0, x.result(6));
        Check.stream(x, -1, "1 dup pop");
        x.run();
        Check.due("the last token is executed", 1, x.result(6));
        // a run that ended in three loops, of the page or of a form, leaves none of them to the next one
        x = chain(0, "3 repeat 3 repeat 3 repeat pop next next next");
        Check.stream(x, -1, "2 repeat 2 repeat 2 repeat $A draw next next next");
        stops(x, 2, 0, 6);
        Check.stream(x, 0, "0 2 repeat 2 repeat 2 repeat 1 add next next next 8 sub repeat pop next");
        Check.stream(x, -1, "0 2 repeat 2 repeat 2 repeat 1 add next next next $A draw");
        Check.due("run", 0, x.run());
        Check.operand(x, 0, 8, 1);
        Check.due("operators", 33, x.result(3));
    }

    private static void forms() {
        Sentences.held(RUNNING, "To draw a form means: the graphics state is copied; if the form has a box, the path "
                + "with the points (x0, y0), (x1, y0), (x1, y1), (x0, y1), taken to device coordinates in this order, "
                + "is added to its clip paths (with the nonzero rule);");
        PageInterpreter x = OperatorBoundaries.drawing("-99 dup 198 dup rect fill");
        x.run();
        Check.due("clip paths without a box", 0, x.item(0, 4));
        x.setBox(0, 1, 2, 4, 6);
        x.run();
        Check.due("clip paths with a box", 1, x.item(0, 4));
        Check.due("cells", 12, x.item(0, 7));
        Check.stream(x, -1, "3 color 2 0 0 1 1 1 concat 0 0 6 9 rect clip drop $A draw");
        x.run();
        Check.due("the colour of the page", 3, x.item(0, 0));
        Check.due("the clip paths of the page, and the box", 2, x.item(0, 4));
        // the clip path is [1, 13] by [1, 10], the box [3, 9] by [3, 7]
        Check.due("cells by the matrix of the page", 24, x.item(0, 7));
        Check.stream(x, -1, "0 0 0 0 0 0 concat $A draw");
        Check.due("run", 0, x.run());
        Check.due("a box that becomes a point covers nothing", 0, x.item(0, 7));
        Check.stream(x, -1, "-1 0 0 -1 7 8 concat $A draw");
        Check.due("run", 0, x.run());
        Check.due("a box that is turned", 12, x.item(0, 7));
        // the clip path is not the first path of the run
        Check.stream(x, -1, "0 0 move drop 2 2 3 3 rect clip drop $A draw");
        x.removeBox(0);
        Check.due("run", 0, x.run());
        Check.due("the clip path is copied", 9, x.item(0, 7));
    }

    private static void formStacks() {
        Sentences.held(RUNNING, "the tokens of the form are executed, with an operand stack of its own, which is empty "
                + "at first;");
        PageInterpreter x = OperatorBoundaries.drawing("pop");
        Check.stream(x, -1, "1 2 3 $A draw");
        stops(x, 2, 0, 0);
        Check.stream(x, 0, SIXTEEN + "pop");
        Check.stream(x, -1, "1 ".repeat(15) + "$A draw");
        Check.due("two full stacks", 0, x.run());
        Check.stream(x, 0, "");
        Check.due("no tokens", 0, x.run());
        Check.stream(x, 0, "5 dup");
        Check.stream(x, -1, "$A draw $A draw pop");
        stops(x, 2, -1, 4);

        Sentences.held(RUNNING, "then the copied graphics state is the present one again, and the execution of the "
                + "drawing stream goes on (its operand stack is as it was).");
        x = OperatorBoundaries.drawing("2 0 0 2 5 5 concat 9 color 0 0 1 1 rect clip drop 7 8");
        x.setBox(0, 0, 0, 1, 1);
        Check.stream(x, -1, "4 $B $A draw 0 0 move fill");
        Check.due("run", 0, x.run());
        OperatorBoundaries.matrix(x, "1 0 0 1 0 0");
        Check.due("colour", 1, x.item(0, 0));
        Check.due("clip paths", 0, x.item(0, 4));
        Check.due("operands", 2, x.result(6));
        Check.operand(x, 0, 4, 1);
        Check.operand(x, 1, 1, 0);
    }

    private static void nesting() {
        Sentences.held(RUNNING, "Drawing is nested at most 4 deep (the page itself does not count).");
        PageInterpreter x = chain(3, "0 0 move fill");
        Check.due("four deep", 0, x.run());
        Check.due("forms at the same time", 4, x.result(5));
        Check.due("items", 1, x.result(4));
        Check.stream(x, 4, "");
        Check.stream(x, 3, "$A draw");
        stops(x, 6, 3, 1);
        Check.due("forms at the same time", 4, x.result(5));
        x = chain(5, "");
        stops(x, 6, 3, 1);
        // one after the other, there may be more of them
        x = chain(3, "");
        Check.stream(x, -1, "$A draw $A draw 9 repeat $A draw next");
        Check.due("one after the other", 0, x.run());
        Check.due("forms at the same time", 4, x.result(5));
        Check.due("operators", 45, x.result(3));
    }

    private static void counting() {
        Sentences.held(RUNNING, "Each execution of an operator, except next, counts 1.");
        Check.due("none", 0, Check.ran("1 $A 2", 0).result(3));
        Check.due("repeat and next", 1, Check.ran("9 repeat next", 0).result(3));
        Check.due("a loop of no times", 1, Check.ran("0 repeat 1 pop next", 0).result(3));
        Check.due("each time", 28, Check.ran("9 repeat 1 dup pop pop next", 0).result(3));
        Check.due("a repeat in a loop each time", 4, Check.ran("3 repeat 2 repeat next next", 0).result(3));
        Check.due("save, restore and close too", 5, Check.ran("save restore 0 0 move close drop", 0).result(3));
        PageInterpreter x = chain(0, "1 pop");
        x.run();
        Check.due("draw and what it draws", 2, x.result(3));
    }

    private static void operandRoom() {
        Sentences.held(RUNNING, "An operand stack has at most 16 operands.");
        Check.due("16 numbers", 16, Check.ran(SIXTEEN, 0).result(6));
        Check.due("16 names", 16, Check.ran("$H ".repeat(16), 0).result(6));
        Check.due("17 numbers", 16, stopped(SIXTEEN + "1", 6, 16).result(6));
        Check.due("17 names", 16, stopped("$H ".repeat(17), 6, 16).result(6));
        Check.due("17 by dup", 16, stopped(SIXTEEN + "dup", 6, 16).result(6));
        Check.due("16 by dup", 16, Check.ran("1 9 repeat dup next 5 repeat dup next dup", 0).result(6));
        Check.due("16 again", 16, Check.ran(SIXTEEN + "pop 1 add 1", 0).result(6));
        PageInterpreter x = chain(0, SIXTEEN + "1");
        stops(x, 6, 0, 16);
    }

    private static void checking() {
        Sentences.held(RUNNING, "Before an operator (except next) is executed, all that can be wrong with it is "
                + "checked; a run ends at the first token with which something is wrong, with one of these error "
                + "kinds:");
        PageInterpreter x = stopped("1 pop pop 0 0 div", 2, 2);
        Check.due("operators before it", 1, x.result(3));
        // a next is never wrong, be the budget used up or the stack full
        x = Check.page("2 repeat next");
        x.setBudget(1);
        Check.due("next behind the budget", 0, x.run());
        Check.due("next with a full stack", 0, Check.ran("2 repeat 1 1 1 1 1 1 1 1 next", 0).result(0));
        // what is wrong with the fourth corner is wrong with the rect
        x = stopped("-5 0 1 1 2 0 concat 0 0 1 999 rect fill", 6, 11);
        Check.due("operands", 4, x.result(6));
    }

    private static void budgetKind() {
        Sentences.held(RUNNING, "1 BUDGET it is an operator, and as many operators as the budget allows have been "
                + "counted");
        PageInterpreter x = Check.page("1 pop 2 pop 3 $A");
        x.setBudget(2);
        Check.due("just enough", 0, x.run());
        Check.due("numbers and names behind it", 2, x.result(6));
        x.setBudget(1);
        stops(x, 1, -1, 3);
        Check.due("operators", 1, x.result(3));
        Check.due("the number before it", 1, x.result(6));
        // 1 + 7 * (1 + 8 * 2) operators
        x = Check.page("1 7 repeat 8 repeat dup pop next next");
        Check.due("120 by the budget of the beginning", 0, x.run());
        x.setBudget(119);
        stops(x, 1, -1, 6);
        Check.due("operators", 119, x.result(3));
        x = chain(0, "1 pop 2 pop");
        x.setBudget(2);
        stops(x, 1, 0, 3);
        x.setBudget(3);
        Check.due("what forms do counts, too", 0, x.run());
        Check.stream(x, -1, "$A draw 9 repeat next 5 pop");
        x.setBudget(4);
        stops(x, 1, -1, 6);
    }

    private static void operandsKind() {
        Sentences.held(RUNNING, "2 OPERANDS there are not enough operands, or one is not as the operator needs it (an "
                + "operator is said to need numbers, names, integers and ranges as above)");
        stopped("add", 2, 0);
        stopped("1 add", 2, 1);
        stopped("1 1 1 1 1 concat", 2, 5);
        stopped("1 1 1 rect fill", 2, 3);
        stopped("$A 1 add", 2, 2);
        stopped("16 color", 2, 1);
        stopped("-1 color", 2, 1);
        stopped("1/2 color", 2, 1);
        stopped("10 repeat next", 2, 1);
        stopped("-1 repeat next", 2, 1);
        stopped("1/2 repeat next", 2, 1);
        stopped("$A repeat next", 2, 1);
        stopped("1 draw", 2, 1);
        PageInterpreter x = chain(0, "1 add");
        Check.stream(x, -1, "1 $A draw");
        stops(x, 2, 0, 1);
    }

    private static void resourceKind() {
        Sentences.held(RUNNING, "3 RESOURCE a name is not found, or its resource is not of the kind that is needed, or "
                + "the form that would be drawn has no stream");
        PageInterpreter x = Check.page("$H draw");
        stops(x, 3, -1, 1);
        x.define(0, 7, 2, 1);
        stops(x, 3, -1, 1);
        x.define(-1, 7, 1, 1);
        stops(x, 3, -1, 1);
        x.define(-1, 7, 2, 5);
        stops(x, 3, -1, 1);
        Check.due("the name stays", 1, x.result(6));
        Check.stream(x, 5, "");
        Check.due("a stream of no tokens is one", 0, x.run());
        Check.due("undo", 4, x.undo());
        stops(x, 3, -1, 1);
        x = Check.page("$A color");
        stops(x, 3, -1, 1);
        x.define(-1, 0, 2, 0);
        stops(x, 3, -1, 1);
        x.define(-1, 0, 1, 0);
        Check.due("the colour 0 is one", 0, x.run());
        x.removeResource(-1, 0);
        stops(x, 3, -1, 1);
        Check.due("a name that no operator looks up", 0, Check.ran("$A dup exch pop pop", 0).result(6));
    }

    private static void recursionKind() {
        Sentences.held(RUNNING, "4 RECURSION the form that would be drawn is being executed");
        PageInterpreter x = chain(0, "$B draw");
        x.define(0, 1, 2, 0);
        stops(x, 4, 0, 1);
        Check.due("operators", 1, x.result(3));
        x = chain(3, "$B draw");
        for (int f = 0; f <= 3; f++) {
            x.define(3, 1, 2, f);
            stops(x, 4, 3, 1);
        }
        // a form that has ended may be drawn again, by the page or by another form
        x = chain(1, "");
        Check.stream(x, -1, "$A draw $A draw $B draw");
        x.define(-1, 1, 2, 1);
        Check.due("again", 0, x.run());
        x = Check.page("$A draw $B draw");
        x.define(-1, 0, 2, 0);
        x.define(-1, 1, 2, 1);
        Check.stream(x, 0, "");
        Check.stream(x, 1, "$A draw");
        Check.due("by another form", 0, x.run());
    }

    private static void divisionKind() {
        Sentences.held(RUNNING, "5 DIVISION the divisor is 0");
        for (String zero : new String[] {"0", "-0", "0/9", "1 1 sub", "0 5 mul"}) {
            PageInterpreter x = Check.ran("7 " + zero + " div", 5);
            Check.due("operands", 2, x.result(6));
            Check.operand(x, 0, 7, 1);
            Check.operand(x, 1, 0, 1);
        }
        stopped("0 0 div", 5, 2);
        Check.operand(Check.ran("0 1/9 div", 0), 0, 0, 1);
        Check.operand(Check.ran("1 1 999 div 999 div div", 0), 0, 998001, 1);
        stopped("0 0 move 1 0 div drop", 5, 5);
    }

    private static void limitOfRoom() {
        Sentences.held(RUNNING, "6 LIMIT there would be more operands, points, clip paths, items or nested forms than "
                + "allowed,");
        stopped(SIXTEEN + "1", 6, 16);
        stopped("0 0 1 1 rect ".repeat(6) + "0 0 move fill", 6, 32);
        // the seventh clip path is wrong when it would be added, that is where the path ends
        for (String end : "fill xfill drop".split(" ")) {
            String six = "6 repeat 0 0 9 9 rect clip drop next ";
            PageInterpreter x = stopped(six + "0 0 9 9 rect xclip " + end, 6, 16);
            Check.due("items", 0, x.result(4));
            Check.due("the mark was counted", 1 + 6 * 3 + 2, x.result(3));
            x = Check.ran(six + "0 0 9 9 rect fill", 0);
            Check.due("six", 6, x.item(0, 4));
        }
        PageInterpreter x = Check.ran("9 repeat 3 repeat 0 0 move fill next next 3 repeat 0 0 move fill next 0 0 move "
                + "drop", 0);
        Check.due("thirty items", 30, x.result(4));
        x = stopped("9 repeat 3 repeat 0 0 move fill next next 3 repeat 0 0 move fill next 0 0 move xfill", 6, 20);
        Check.due("items", 30, x.result(4));
        x = chain(4, "");
        stops(x, 6, 3, 1);
        // a box is a clip path, too
        x = OperatorBoundaries.drawing("0 0 move fill");
        Check.stream(x, -1, "6 repeat 0 0 9 9 rect clip drop next $A draw");
        Check.due("without a box", 0, x.run());
        x.setBox(0, 0, 0, 1, 1);
        stops(x, 6, -1, 11);
        Check.due("the name stays", 1, x.result(6));
        Check.stream(x, -1, "5 repeat 0 0 9 9 rect clip drop next $A draw");
        Check.due("the box is the sixth", 0, x.run());
        Check.due("clip paths", 6, x.item(0, 4));
    }

    private static void gives(String text, int numerator, int denominator) {
        PageInterpreter x = Check.ran(text, 0);
        Check.due("operands of " + text, 1, x.result(6));
        Check.operand(x, 0, numerator, denominator);
    }

    /** The last token is too much. */
    private static void tooMuch(String text) {
        PageInterpreter x = Check.ran(text, 6);
        Check.due("the token of the error of " + text, x.tokenCount(-1) - 1, x.result(2));
        Check.due("both operands stay", 2, x.result(6));
    }

    private static void limitOfFractions() {
        Sentences.held(RUNNING, "or a result of a single addition, subtraction, multiplication or division in the "
                + "arithmetic above would have a numerator or a denominator of more than 1000000 (in lowest terms, "
                + "without the sign),");
        gives("999 " + THOUSAND + "mul 999 1 add add", 1000000, 1);
        tooMuch(MILLION + "1 add");
        tooMuch(MILLION + "1/9 add");
        gives(MILLION + "-1 add", 999999, 1);
        gives("0 " + MILLION + "sub", -1000000, 1);
        tooMuch("-1 " + MILLION + "sub");
        tooMuch(MILLION + "-1 sub");
        gives(MILLION + "dup sub", 0, 1);
        gives(MILLION, 1000000, 1);
        tooMuch(MILLION + "2 mul");
        tooMuch(MILLION + "-2 mul");
        tooMuch(MILLION + "dup mul");
        tooMuch("999 2 add " + THOUSAND + "mul");
        gives(MILLION + "1/2 mul", 500000, 1);
        gives(MILLION + "dup div", 1, 1);
        gives("1 " + MILLION + "div", 1, 1000000);
        gives("-999 " + MILLION + "div", -999, 1000000);
        tooMuch(MILLION + "1/2 div");
        tooMuch("1/2 " + MILLION + "div");
        tooMuch("-1/9 " + MILLION + "div");
        gives("1 " + MILLION + "div dup 0 mul add", 1, 1000000);
        tooMuch("1 " + MILLION + "div 1/3 add");
        tooMuch("1 " + MILLION + "div 1 add");
        tooMuch("1 " + MILLION + "div 2 sub");
        // the parts are looked at in lowest terms only
        gives("1 " + MILLION + "div dup add", 1, 500000);
        gives("1 " + MILLION + "div dup sub", 0, 1);
        gives("1 " + MILLION + "div " + MILLION + "mul", 1, 1);
        gives("1 999 div 1 999 div add", 2, 999);
        gives("1 999 div " + THOUSAND + "1 sub mul", 1, 1);
        // matrices: a product alone may be too much, though the sum would not be
        PageInterpreter x = Check.ran("999 0 -999 0 0 0 concat 999 2 add dup move fill", 0);
        OperatorBoundaries.points(x, 0, 0, 0);
        stopped("999 0 -999 0 0 0 concat 999 3 add dup move fill", 6, 11);
        x = stopped("999 0 0 999 0 0 concat 999 3 add 0 0 1 0 0 concat", 6, 15);
        OperatorBoundaries.matrix(x, "999 0 0 999 0 0");
        Check.due("operands", 6, x.result(6));
    }

    private static void limitOfCoordinates() {
        Sentences.held(RUNNING, "or a device coordinate would be less than -16000 or greater than 16000");
        String up = THOUSAND;
        String down = "-500 2 mul ";
        OperatorBoundaries.points(Check.ran(up + down + "move fill", 0), 0, 16000, -16000);
        OperatorBoundaries.points(Check.ran(down + up + "move fill", 0), 0, -16000, 16000);
        OperatorBoundaries.points(Check.ran(up + "1 16 div sub " + down + "1 16 div add move fill", 0), 0, 15999,
                -15999);
        // half a sixteenth more goes up: 16001 above, but -16000 below
        for (String far : new String[] {up + "1 16 div add ", up + "1 32 div add ", down + "1 16 div sub ",
            down + "1 31 div sub "}) {
            PageInterpreter x = Check.ran(far + "0 move fill", 6);
            Check.due("x of " + far, 2, x.result(6));
            x = Check.ran("0 " + far + "move fill", 6);
            Check.due("y of " + far, 2, x.result(6));
        }
        OperatorBoundaries.points(Check.ran(up + "1 33 div add 0 move fill", 0), 0, 16000, 0);
        OperatorBoundaries.points(Check.ran("0 " + down + "1 32 div sub move fill", 0), 0, 0, -16000);
        // the corners of rects and of boxes
        OperatorBoundaries.points(Check.ran("0 0 " + up + down + "rect fill", 0), 0,
                0, 0, 16000, 0, 16000, -16000, 0, -16000);
        for (String near : new String[] {"1 0 999 0", "0 1 0 999", "-1 0 -999 0", "0 -1 0 -999"}) {
            Check.ran(near + " rect fill", 0);
        }
        for (String far : new String[] {"2 0 999 0", "0 2 0 999", "-2 0 -999 0", "0 -2 0 -999"}) {
            stopped(far + " rect fill", 6, 4);
        }
        PageInterpreter x = OperatorBoundaries.drawing("0 0 move fill");
        Check.stream(x, -1, "500 0 0 500 0 0 concat $A draw");
        x.setBox(0, -2, -2, 2, 2);
        Check.due("a box up to the bound", 0, x.run());
        for (int[] b : new int[][] {{-3, 0, 1, 1}, {0, -3, 1, 1}, {0, 0, 3, 1}, {0, 0, 1, 3}}) {
            x.setBox(0, b[0], b[1], b[2], b[3]);
            stops(x, 6, -1, 8);
        }
    }

    private static void orderOfKinds() {
        Sentences.held(RUNNING, "If several kinds apply, the first one counts.");
        PageInterpreter x = Check.page("1 pop pop");
        x.setBudget(1);
        stops(x, 1, -1, 2);
        x = Check.page("1 pop $A draw");
        x.setBudget(1);
        stops(x, 1, -1, 3);
        x = chain(0, "$A draw");
        x.define(0, 0, 2, 0);
        x.setBudget(1);
        stops(x, 1, 0, 1);
        x.setBudget(2);
        stops(x, 4, 0, 1);
        x = Check.page("1 pop 1 0 div");
        x.setBudget(1);
        stops(x, 1, -1, 4);
        x = Check.page("1 pop " + SIXTEEN + "dup");
        x.setBudget(1);
        stops(x, 1, -1, 18);
        // operands before the division, and before the limits
        stopped("$A 0 div", 2, 2);
        stopped("0 div", 2, 1);
        stopped("0 0 1 1 rect ".repeat(6) + "0 move fill", 2, 31);
        stopped("0 0 1 1 rect ".repeat(5) + "1 1 move 1 1 rect fill", 2, 30);
        stopped("$A 999 2 add move fill", 2, 4);
        x = chain(3, "1 draw");
        stops(x, 2, 3, 1);
        // a resource that is not found before the depth, and the recursion before it, too
        x = chain(3, "$B draw");
        stops(x, 3, 3, 1);
        x.define(3, 1, 2, 5);
        stops(x, 3, 3, 1);
        x.define(3, 1, 2, 3);
        stops(x, 4, 3, 1);
        Check.stream(x, 5, "");
        x.define(3, 1, 2, 5);
        stops(x, 6, 3, 1);
        // the recursion before a box that has no room
        x = chain(0, "5 repeat 0 0 9 9 rect clip drop next $A draw");
        x.define(0, 0, 2, 0);
        x.setBox(0, 0, 0, 1, 1);
        stops(x, 4, 0, 11);
        // a form without a stream before a box that has no room
        x = Check.page("6 repeat 0 0 9 9 rect clip drop next $A draw");
        x.define(-1, 0, 2, 0);
        x.setBox(0, 0, 0, 1, 1);
        stops(x, 3, -1, 11);
    }

    private static void noEffect() {
        Sentences.held(RUNNING, "The operator with an error is not counted and has no effect; everything that was done "
                + "before it stays.");
        PageInterpreter x = stopped("3 color 0 0 2 2 rect fill 2 0 0 2 0 0 concat 7 8 $A add", 2, 18);
        Check.due("operators", 4, x.result(3));
        Check.due("operands", 3, x.result(6));
        Check.operand(x, 1, 8, 1);
        Check.operand(x, 2, 0, 0);
        Check.due("items", 1, x.result(4));
        Check.due("cells", 4, x.countColor(3));
        OperatorBoundaries.matrix(x, "2 0 0 2 0 0");
        Check.due("trace", Check.NONE, x.trace(4, 0));
        // a paint without room for its clip path paints nothing, too
        x = Check.ran("6 repeat 0 0 9 9 rect clip fill next 0 0 1 1 rect clip fill", 6);
        Check.due("items", 6, x.result(4));
        // a paint without room for its item adds no clip path
        x = stopped("9 repeat 3 repeat 0 0 move fill next next 2 repeat 0 0 move fill next 0 0 move fill 0 0 1 1 rect "
                + "clip fill", 6, 27);
        Check.due("items", 30, x.result(4));
        Check.due("operators", 73, x.result(3));
        // a draw that fails enters no form
        x = chain(0, "$B draw");
        stops(x, 3, 0, 1);
        Check.due("operators", 1, x.result(3));
        Check.due("forms at the same time", 1, x.result(5));
    }

    private static void sums() {
        Sentences.held(RUNNING, "(A device coordinate is looked at when it is computed; sums of rect are x + w, then y "
                + "+ h.)");
        // corners that are as far as they may be, and the ones beyond
        OperatorBoundaries.points(Check.ran("999 0 1 1 rect fill", 0), 0, 15984, 0, 16000, 0, 16000, 16, 15984, 16);
        stopped("999 0 2 1 rect fill", 6, 4);
        stopped("0 999 1 2 rect fill", 6, 4);
        stopped("-999 0 -2 1 rect fill", 6, 4);
        stopped("0 -999 1 -2 rect fill", 6, 4);
        stopped("999 2 add 0 -2 1 rect fill", 6, 6);
        // the sum itself may be too much, though its place would not be
        String small = "0 0 0 0 0 0 concat ";
        OperatorBoundaries.points(Check.ran(small + MILLION + "dup 0 0 rect fill", 0), 0, 0, 0, 0, 0, 0, 0, 0, 0);
        stopped(small + MILLION + "0 1 0 rect fill", 6, 15);
        stopped(small + "0 " + MILLION + "0 1 rect fill", 6, 15);
        stopped(small + "1 " + MILLION + "div 0 1 0 rect fill", 6, 17);
        // 1/999 + 1/1004 has too great a denominator, in x + w as in y + h
        stopped("1 999 div 0 1 999 5 add div 1 rect fill", 6, 10);
        stopped("0 1 999 div 1 1 999 5 add div rect fill", 6, 10);
    }

    private static void results() {
        Sentences.held(RUNNING, "The results of a run are kept until the next run; other calls do not change them.");
        PageInterpreter x = Check.ran("3 color 0 0 2 2 rect fill 2 0 0 2 0 0 concat 8 add", 2);
        Check.stream(x, -1, "1");
        x.setBox(0, 0, 0, 1, 1);
        x.removeBox(0);
        x.define(-1, 0, 1, 1);
        x.removeResource(-1, 0);
        x.setBudget(1);
        x.setSize(24, 24);
        Check.write(x, "fill");
        x.setStream(-1);
        x.clearBuffer();
        x.undo();
        kept(x);
        for (int i = 0; i < 6; i++) {
            x.undo();
        }
        kept(x);
        // a refused run is none
        x = Check.ran("3 color 0 0 2 2 rect fill 2 0 0 2 0 0 concat 8 add", 2);
        x.undo();
        Check.due("run without a page", Check.ILLEGAL, x.run());
        kept(x);
        Check.stream(x, -1, "");
        Check.due("the next run", 0, x.run());
        Check.due("kind", 0, x.result(0));
        Check.due("token", Check.NONE, x.result(2));
        Check.due("operators", 0, x.result(3));
        Check.due("items", 0, x.result(4));
        Check.due("operands", 0, x.result(6));
        Check.due("trace", Check.NONE, x.trace(0, 0));
        Check.due("colour", 0, x.cell(0, 0));
        OperatorBoundaries.matrix(x, "1 0 0 1 0 0");
    }

    private static void kept(PageInterpreter x) {
        int[] due = {2, -1, 16, 4, 1, 0, 1};
        for (int what = 0; what <= 6; what++) {
            Check.due("result(" + what + ")", due[what], x.result(what));
        }
        Check.operand(x, 0, 8, 1);
        OperatorBoundaries.matrix(x, "2 0 0 2 0 0");
        OperatorBoundaries.points(x, 0, 0, 0, 32, 0, 32, 32, 0, 32);
        Check.due("trace(3, 1)", 14, x.trace(3, 1));
        Check.due("cell", 3, x.cell(1, 1));
        Check.due("countColor", 4, x.countColor(3));
    }

    private static void run() {
        Sentences.held(P14, "Runs the page. Returns 0 if it ends at the end of the page, otherwise the error kind, 1 "
                + "to 6;");
        Check.due("a page of no tokens", 0, Check.page("").run());
        Check.due("a page", 0, Check.page("1 1 div").run());
        PageInterpreter x = Check.page("1 pop pop");
        x.setBudget(1);
        Check.due("budget", 1, x.run());
        Check.due("operands", 2, Check.page("pop").run());
        Check.due("resource", 3, Check.page("$A draw").run());
        x = chain(0, "$B draw");
        x.define(0, 1, 2, 0);
        Check.due("recursion", 4, x.run());
        Check.due("division", 5, Check.page("0 0 div").run());
        Check.due("limit", 6, Check.page(SIXTEEN + "1").run());
        for (int i = 0; i < 3; i++) {
            Check.due("again", 4, x.run());
        }

        Sentences.held(P14, "ILLEGAL_STATE if the page has no stream.");
        x = new PageInterpreter();
        Check.due("of a new object", Check.ILLEGAL, x.run());
        Check.stream(x, 0, "1");
        Check.due("a form has one", Check.ILLEGAL, x.run());
        Check.due("which is no run", Check.ILLEGAL, x.result(0));
        Check.stream(x, -1, "");
        Check.due("a stream of no tokens", 0, x.run());
        x.undo();
        Check.due("after the undo", Check.ILLEGAL, x.run());
    }

    private static void result() {
        String list = "Returns a number of the latest run. - `what`: 0 the error kind (0 for none), 1 the stream and 2 "
                + "the number of the token with the error, 3 the number of operators that were counted, 4 the number "
                + "of items, 5 the greatest number of forms that were being executed at the same time, 6 the number of "
                + "operands on the stack of the page at the end";
        Sentences.held(P15, list);
        PageInterpreter x = Check.ran("", 0);
        int[] none = {0, Check.NONE, Check.NONE, 0, 0, 0, 0};
        for (int what = 0; what <= 6; what++) {
            Check.due("result(" + what + ") of no tokens", none[what], x.result(what));
        }
        x = Check.ran("pop", 2);
        int[] first = {2, -1, 0, 0, 0, 0, 0};
        for (int what = 0; what <= 6; what++) {
            Check.due("result(" + what + ") of an error at once", first[what], x.result(what));
        }
        x = chain(3, "0 0 move fill pop");
        x.run();
        int[] deep = {2, 3, 4, 6, 1, 4, 0};
        for (int what = 0; what <= 6; what++) {
            Check.due("result(" + what + ") of an error four deep", deep[what], x.result(what));
        }
        x = chain(1, "");
        Check.stream(x, -1, "$A draw " + SIXTEEN);
        x.run();
        Check.due("the greatest number, not the last one", 2, x.result(5));
        Check.due("a full stack", 16, x.result(6));
        Check.stream(x, -1, "");
        x.run();
        for (int what = 0; what <= 6; what++) {
            Check.due("result(" + what + ") is of the latest run", none[what], x.result(what));
        }
    }

    private static void resultInForm() {
        Sentences.held(P15, "(if the run ended in a form: as it was when the page drew, the name being gone)");
        PageInterpreter x = chain(1, "1 2 3 add pop pop pop");
        Check.stream(x, -1, "8 $B $A draw 9");
        stops(x, 2, 1, 6);
        Check.due("operands of the page", 2, x.result(6));
        Check.operand(x, 1, 1, 0);
        Check.stream(x, -1, "$A draw");
        stops(x, 2, 1, 6);
        Check.due("none", 0, x.result(6));
        Check.stream(x, -1, "1 ".repeat(15) + "$A draw");
        stops(x, 2, 1, 6);
        Check.due("as many as there can be", 15, x.result(6));

        Sentences.held(P15, "Returns the number; INVALID_ARGUMENT if what is out of range;");
        x = Check.ran("pop", 2);
        for (int what : new int[] {-1, 7, LEAST, MOST}) {
            Check.due("result(" + what + ")", Check.INVALID, x.result(what));
        }
    }

    private static void resultErrors() {
        Sentences.held(P15, "ILLEGAL_STATE if there was no run;");
        PageInterpreter x = Check.page("1");
        for (int what = 0; what <= 6; what++) {
            Check.due("result(" + what + ") before the first run", Check.ILLEGAL, x.result(what));
        }
        x.run();
        Check.due("result(6) behind it", 1, x.result(6));

        Sentences.held(P15, "NONE for 1 and 2 if there was no error.");
        x = Check.ran("1", 0);
        Check.due("result(1)", Check.NONE, x.result(1));
        Check.due("result(2)", Check.NONE, x.result(2));
        Check.stream(x, -1, "pop");
        stops(x, 2, -1, 0);
        Check.stream(x, -1, "");
        x.run();
        Check.due("result(1) of a run without an error behind one with an error", Check.NONE, x.result(1));
        Check.due("result(2)", Check.NONE, x.result(2));
        Check.due("result(0) is none, too", 0, x.result(0));
    }

    private static void operand() {
        Sentences.held(P16, "Returns an operand that was on the stack of the page at the end of the latest run. - "
                + "`index`: number of the operand, from 0, from the bottom");
        PageInterpreter x = Check.ran("1 2 3 4 5 6 7 8 9 10 11 12 13 14 15 16", 0);
        for (int i = 0; i < 16; i++) {
            Check.operand(x, i, i + 1, 1);
        }
        x = chain(0, "7 8 9 pop pop pop pop");
        Check.stream(x, -1, "5 $A draw");
        Check.due("run", 2, x.run());
        Check.operand(x, 0, 5, 1);
        Check.due("not those of the form", Check.NONE, x.operand(1, 0));

        Sentences.held(P16, "- `part`: 0 the numerator, 1 the denominator (for a name: 0 its number, 1 the number 0)");
        x = Check.ran("$A $H -5/2 0 -0/9", 0);
        Check.operand(x, 0, 0, 0);
        Check.operand(x, 1, 7, 0);
        Check.operand(x, 2, -5, 2);
        Check.operand(x, 3, 0, 1);
        Check.operand(x, 4, 0, 1);
        x = Check.ran(MILLION + "0 1 " + MILLION + "div sub", 0);
        Check.operand(x, 0, 1000000, 1);
        Check.operand(x, 1, -1, 1000000);
    }

    private static void operandErrors() {
        Sentences.held(P16, "Returns the part; INVALID_ARGUMENT if index is negative or part is out of range;");
        PageInterpreter x = Check.ran("1 2", 0);
        for (int[] w : new int[][] {{-1, 0}, {LEAST, 1}, {0, -1}, {0, 2}, {0, LEAST}, {0, MOST}, {99, 2}}) {
            Check.due("operand(" + w[0] + ", " + w[1] + ")", Check.INVALID, x.operand(w[0], w[1]));
            Check.due("of a new object", Check.INVALID, new PageInterpreter().operand(w[0], w[1]));
        }

        Sentences.held(P16, "ILLEGAL_STATE if there was no run;");
        x = Check.page("1");
        Check.due("operand(0, 0)", Check.ILLEGAL, x.operand(0, 0));
        Check.due("operand(MOST, 1)", Check.ILLEGAL, x.operand(MOST, 1));

        Sentences.held(P16, "NONE if there is no such operand.");
        x = Check.ran("1", 0);
        Check.due("operand(1, 0)", Check.NONE, x.operand(1, 0));
        Check.due("operand(1, 1)", Check.NONE, x.operand(1, 1));
        Check.due("operand(MOST, 0)", Check.NONE, x.operand(MOST, 0));
        x = Check.ran(SIXTEEN, 0);
        Check.due("operand(15, 0)", 1, x.operand(15, 0));
        Check.due("operand(16, 0)", Check.NONE, x.operand(16, 0));
        x = Check.ran("1 pop", 0);
        Check.due("one that was removed", Check.NONE, x.operand(0, 0));
    }

    private static void matrix() {
        Sentences.held(P17, "Returns a part of the matrix of the graphics state at the end of the latest run (of the "
                + "form in which it ended, if it ended in one).");
        OperatorBoundaries.matrix(Check.ran("", 0), "1 0 0 1 0 0");
        PageInterpreter x = chain(1, "1 0 0 1 3 3 concat pop");
        Check.stream(x, -1, "2 0 0 2 0 0 concat $A draw");
        Check.due("run that ends in a form", 2, x.run());
        OperatorBoundaries.matrix(x, "2 0 0 2 6 6");
        Check.stream(x, 1, "1 0 0 1 3 3 concat");
        Check.due("run that ends in the page", 0, x.run());
        OperatorBoundaries.matrix(x, "2 0 0 2 0 0");
        // a draw with an error ends where it stands
        Check.stream(x, 0, "1 0 0 1 1 1 concat $B draw");
        Check.due("run that ends at a draw", 3, x.run());
        OperatorBoundaries.matrix(x, "2 0 0 2 2 2");
        x = Check.ran("save 2 0 0 2 0 0 concat pop restore", 2);
        OperatorBoundaries.matrix(x, "2 0 0 2 0 0");

        Sentences.held(P17, "- `entry`: 0 to 5 for a to f - `part`: 0 the numerator, 1 the denominator Returns the "
                + "part;");
        x = Check.ran("1/2 2/3 -3/4 4/5 -5/6 6/7 concat", 0);
        OperatorBoundaries.matrix(x, "1/2 2/3 -3/4 4/5 -5/6 6/7");

        Sentences.held(P17, "INVALID_ARGUMENT if an argument is out of range;");
        x = Check.ran("", 0);
        for (int[] w : new int[][] {{-1, 0}, {6, 0}, {LEAST, 0}, {MOST, 0}, {0, -1}, {0, 2}, {0, LEAST}, {5, MOST}}) {
            Check.due("matrix(" + w[0] + ", " + w[1] + ")", Check.INVALID, x.matrix(w[0], w[1]));
            Check.due("of a new object", Check.INVALID, new PageInterpreter().matrix(w[0], w[1]));
        }

        Sentences.held(P17, "ILLEGAL_STATE if there was no run.");
        x = Check.page("");
        Check.due("matrix(0, 0)", Check.ILLEGAL, x.matrix(0, 0));
        Check.due("matrix(5, 1)", Check.ILLEGAL, x.matrix(5, 1));
        x.run();
        Check.due("matrix(5, 1) behind it", 1, x.matrix(5, 1));
    }

    private static void trace() {
        Sentences.held(P18, "Returns a counted operator of the latest run. - `index`: number of the operator in the "
                + "order in which they were counted, from 0");
        PageInterpreter x = Check.ran("2 repeat 1 pop next 1 dup", 0);
        int[] tokens = {1, 3, 3, 6};
        for (int i = 0; i < tokens.length; i++) {
            Check.due("trace(" + i + ", 1)", tokens[i], x.trace(i, 1));
        }
        x = Check.page("9 repeat 9 repeat 9 repeat 1 pop next next next");
        x.setBudget(200);
        x.run();
        Check.due("the first one", 1, x.trace(0, 1));
        Check.due("the last one that there can be", 7, x.trace(199, 1));
        Check.due("there is no other", Check.NONE, x.trace(200, 1));

        Sentences.held(P18, "- `what`: 0 its stream, 1 the number of its token, 2 the number of forms that were being "
                + "executed");
        x = chain(3, "0 0 move drop");
        Check.stream(x, -1, "1 pop $A draw 1 pop");
        Check.due("run", 0, x.run());
        int[][] due = {{-1, 1, 0}, {-1, 3, 0}, {0, 1, 1}, {1, 1, 2}, {2, 1, 3}, {3, 2, 4}, {3, 3, 4}, {-1, 5, 0}};
        for (int i = 0; i < due.length; i++) {
            for (int what = 0; what < 3; what++) {
                Check.due("trace(" + i + ", " + what + ")", due[i][what], x.trace(i, what));
            }
        }
    }

    private static void traceErrors() {
        Sentences.held(P18, "Returns the value; INVALID_ARGUMENT if index is negative or what is out of range;");
        PageInterpreter x = Check.ran("1 pop", 0);
        for (int[] w : new int[][] {{-1, 0}, {LEAST, 0}, {0, -1}, {0, 3}, {0, LEAST}, {0, MOST}, {999, 3}}) {
            Check.due("trace(" + w[0] + ", " + w[1] + ")", Check.INVALID, x.trace(w[0], w[1]));
            Check.due("of a new object", Check.INVALID, new PageInterpreter().trace(w[0], w[1]));
        }

        Sentences.held(P18, "ILLEGAL_STATE if there was no run;");
        x = Check.page("1 pop");
        Check.due("trace(0, 0)", Check.ILLEGAL, x.trace(0, 0));
        Check.due("trace(MOST, 2)", Check.ILLEGAL, x.trace(MOST, 2));

        Sentences.held(P18, "NONE if there is no such operator.");
        x = Check.ran("1 pop", 0);
        Check.due("trace(0, 1)", 1, x.trace(0, 1));
        Check.due("trace(1, 0)", Check.NONE, x.trace(1, 0));
        Check.due("trace(MOST, 2)", Check.NONE, x.trace(MOST, 2));
        Check.due("the operator with an error is not counted", Check.NONE, Check.ran("pop", 2).trace(0, 0));
        Check.due("nor is a next", Check.NONE, Check.ran("1 repeat next", 0).trace(1, 0));
        Check.stream(x, -1, "");
        x.run();
        Check.due("none of the run before", Check.NONE, x.trace(0, 1));
    }
}
