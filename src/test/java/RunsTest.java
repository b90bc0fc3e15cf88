/** Promises 14 to 18: the operators, the error kinds, and what is left of a run. */
public final class RunsTest {
    private static final int LEAST = Integer.MIN_VALUE;
    private static final int MOST = Integer.MAX_VALUE;

    public static void main(String[] args) {
        arguments();
        literals();
        arithmetic();
        stackOperators();
        operandErrors();
        operandLimit();
        fractionLimit();
        budget();
        loops();
        matrices();
        matrixLimits();
        graphicsStates();
        colors();
        deviceLimits();
        pointLimit();
        clipLimit();
        itemLimit();
        drawing();
        drawErrors();
        nesting();
        boxErrors();
        endInForm();
        lookUp();
        traces();
        resultsStay();
        orderOfKinds();
        runAgain();
        manyRuns();
        deepestSaves();
        manyBoxes();
        whatIsLeft();
        Check.end("RunsTest");
    }

    /** Runs a page that ends with an error. */
    private static PageInterpreter stopped(String text, int kind, int token) {
        PageInterpreter x = Check.ran(text, kind);
        at(x, kind, -1, token);
        return x;
    }

    private static void at(PageInterpreter x, int kind, int stream, int token) {
        Check.due("result(0)", kind, x.result(0));
        Check.due("result(1)", stream, x.result(1));
        Check.due("result(2)", token, x.result(2));
    }

    /** Runs a page that ends well, with one operand. */
    private static void gives(String text, int numerator, int denominator) {
        PageInterpreter x = Check.ran(text, 0);
        Check.due("operands of " + text, 1, x.result(6));
        Check.operand(x, 0, numerator, denominator);
    }

    private static void arguments() {
        PageInterpreter x = new PageInterpreter();
        for (int round = 0; round < 2; round++) {
            for (int wrong : new int[] {-1, 7, LEAST, MOST}) {
                Check.due("result", Check.INVALID, x.result(wrong));
            }
            for (int[] w : new int[][] {{-1, 0}, {0, -1}, {0, 2}, {LEAST, 0}, {99, MOST}}) {
                Check.due("operand", Check.INVALID, x.operand(w[0], w[1]));
            }
            for (int[] w : new int[][] {{-1, 0}, {6, 0}, {0, -1}, {0, 2}, {LEAST, 0}, {0, MOST}}) {
                Check.due("matrix", Check.INVALID, x.matrix(w[0], w[1]));
            }
            for (int[] w : new int[][] {{-1, 0}, {0, -1}, {0, 3}, {LEAST, 0}, {99, MOST}}) {
                Check.due("trace", Check.INVALID, x.trace(w[0], w[1]));
            }
            x = Check.ran("", 0);
        }
        Check.due("operand", Check.NONE, x.operand(0, 0));
        Check.due("operand", Check.NONE, x.operand(MOST, 1));
        Check.due("trace", Check.NONE, x.trace(0, 0));
        Check.due("trace", Check.NONE, x.trace(MOST, 2));
        int[] due = {0, Check.NONE, Check.NONE, 0, 0, 0, 0};
        for (int what = 0; what < due.length; what++) {
            Check.due("result(" + what + ")", due[what], x.result(what));
        }
        for (int entry = 0; entry < 6; entry++) {
            Check.due("matrix", entry == 0 || entry == 3 ? 1 : 0, x.matrix(entry, 0));
            Check.due("matrix", 1, x.matrix(entry, 1));
        }
        // an index may be wrong even where there was no run, but not a great one
        Check.due("operand before a run", Check.ILLEGAL, new PageInterpreter().operand(MOST, 0));
        Check.due("trace before a run", Check.ILLEGAL, new PageInterpreter().trace(MOST, 0));
    }

    private static void literals() {
        gives("6/4", 3, 2);
        gives("-6/4", -3, 2);
        gives("8/4", 2, 1);
        gives("-0", 0, 1);
        gives("0/7", 0, 1);
        gives("-999/9", -111, 1);
        gives("$A", 0, 0);
        gives("$H", 7, 0);
    }

    private static void arithmetic() {
        gives("1/2 1/3 add", 5, 6);
        gives("1/2 -1/2 add", 0, 1);
        gives("1/2 1/3 sub", 1, 6);
        gives("1/3 1/2 sub", -1, 6);
        gives("-2/3 9/4 mul", -3, 2);
        gives("1 3 div", 1, 3);
        gives("1 -3 div", -1, 3);
        gives("-1/2 -3/4 div", 2, 3);
        gives("0 -5 div", 0, 1);
        gives("3 2 exch sub", -1, 1);
    }

    private static void stackOperators() {
        PageInterpreter x = Check.ran("1 $B exch dup 5/2", 0);
        Check.due("operands", 4, x.result(6));
        Check.operand(x, 0, 1, 0);
        Check.operand(x, 1, 1, 1);
        Check.operand(x, 2, 1, 1);
        Check.operand(x, 3, 5, 2);
        Check.due("operand(4)", Check.NONE, x.operand(4, 0));
        x = Check.ran("$C dup pop $D pop", 0);
        Check.due("operands", 1, x.result(6));
        Check.operand(x, 0, 2, 0);
    }

    private static void operandErrors() {
        for (String w : "move line rect add sub mul div exch".split(" ")) {
            boolean begins = w.equals("move") || w.equals("rect");
            String before = w.equals("line") ? "1 1 move " : "";
            String after = begins || w.equals("line") ? " drop" : "";
            int token = w.equals("line") ? 4 : 1;
            stopped(before + "1 " + w + after, 2, token);
        }
        for (String w : "color draw repeat dup pop".split(" ")) {
            stopped(w + (w.equals("repeat") ? " next" : ""), 2, 0);
        }
        stopped("1 1 1 rect drop", 2, 3);
        stopped("1 1 1 1 1 concat", 2, 5);
        for (String w : "add sub mul div".split(" ")) {
            stopped("1 $A " + w, 2, 2);
            stopped("$A 1 " + w, 2, 2);
        }
        stopped("$A 1 move drop", 2, 2);
        stopped("$A 0 0 move 1 line drop", 2, 5);
        stopped("$A 1 1 1 rect drop", 2, 4);
        stopped("$A 0 0 1 0 0 concat", 2, 6);
        stopped("1 0 0 1 0 $A concat", 2, 6);
        // a name below the operands does no harm
        Check.ran("$A 1 1 add $A 0 0 move fill $A 1 0 0 1 0 0 concat $A 0 repeat next", 0);
    }

    private static void operandLimit() {
        String sixteen = "1 1 1 1 1 1 1 1 1 1 1 1 1 1 1 1";
        PageInterpreter x = Check.ran(sixteen, 0);
        Check.due("operands", 16, x.result(6));
        stopped(sixteen + " 1", 6, 16);
        stopped(sixteen + " $A", 6, 16);
        x = stopped(sixteen + " dup", 6, 16);
        Check.due("operators", 0, x.result(3));
        Check.due("operands", 16, x.result(6));
        x = Check.ran(sixteen + " add dup exch", 0);
        Check.due("operands", 16, x.result(6));
        x = Check.ran("9 repeat 1 1 next", 6);
        at(x, 6, -1, 2);
        Check.due("operands", 16, x.result(6));
        Check.due("operators", 1, x.result(3));
    }

    private static void fractionLimit() {
        String thousand = "500 2 mul ";
        gives(thousand + "dup mul", 1000000, 1);
        gives(thousand + "dup mul -1 mul", -1000000, 1);
        gives("1 " + thousand + "dup mul div", 1, 1000000);
        gives(thousand + "dup mul 2 div", 500000, 1);
        PageInterpreter x = stopped(thousand + "dup mul 1 add", 6, 6);
        Check.due("operands", 2, x.result(6));
        Check.operand(x, 0, 1000000, 1);
        Check.operand(x, 1, 1, 1);
        Check.due("operators", 3, x.result(3));
        stopped(thousand + "dup mul -1 mul 1 sub", 6, 8);
        stopped(thousand + "dup mul 2 mul", 6, 6);
        stopped(thousand + "dup mul 1/2 div", 6, 6);
        stopped("1/9 " + thousand + "dup mul div", 6, 6);
        stopped(thousand + "dup mul 1/2 add", 6, 6);
        gives("999 999 mul 1/2 mul", 998001, 2);
        gives("1/7 999 div 1/7 div", 1, 999);
        stopped("1 999 div 1 997 div mul 1 2 div mul", 6, 10);
    }

    private static void budget() {
        PageInterpreter x = Check.page("1 dup pop dup 2");
        x.setBudget(3);
        Check.due("run", 0, x.run());
        Check.due("operators", 3, x.result(3));
        x.setBudget(2);
        Check.due("run", 1, x.run());
        at(x, 1, -1, 3);
        Check.due("operators", 2, x.result(3));
        Check.due("operands", 1, x.result(6));
        x = Check.page("9 repeat 9 repeat 1 pop next next");
        Check.due("run", 0, x.run());
        Check.due("operators", 91, x.result(3));
        x = Check.page("9 repeat 9 repeat 1 pop 1 pop next next");
        Check.due("run", 1, x.run());
        Check.due("operators", 120, x.result(3));
        x.setBudget(200);
        Check.due("run", 0, x.run());
        Check.due("operators", 172, x.result(3));
        x = Check.page("9 repeat 9 repeat 9 repeat 1 pop next next next");
        x.setBudget(200);
        Check.due("run", 1, x.run());
        Check.due("operators", 200, x.result(3));
        Check.due("the last one", 7, x.trace(199, 1));
        Check.due("there is no other", Check.NONE, x.trace(200, 1));
        // next is not counted, and no budget stops it; neither are numbers
        x = Check.page("2 repeat next 5");
        x.setBudget(1);
        Check.due("run", 0, x.run());
        Check.operand(x, 0, 5, 1);
    }

    private static void loops() {
        PageInterpreter x = Check.ran("0 0 repeat 1 add next", 0);
        Check.operand(x, 0, 0, 1);
        Check.due("operators", 1, x.result(3));
        gives("0 1 repeat 1 add next", 1, 1);
        gives("0 2 repeat 1 add next", 2, 1);
        x = Check.ran("0 3 repeat 1 add next 9", 0);
        Check.operand(x, 0, 3, 1);
        Check.operand(x, 1, 9, 1);
        x = Check.ran("0 9 repeat 1 add next", 0);
        Check.operand(x, 0, 9, 1);
        x = Check.ran("0 2 repeat 3 repeat 1 add next 0 repeat 5 add next 2 repeat 10 add next next", 0);
        Check.operand(x, 0, 46, 1);
        Check.due("operators", 1 + 2 * (1 + 3 + 1 + 1 + 2), x.result(3));
        x = Check.ran("1 4/2 repeat 2 repeat 2 repeat 2 mul next next next", 0);
        Check.operand(x, 0, 256, 1);
        // an operand of the inner repeat may stand before the outer one
        x = Check.ran("0 1 2 2 repeat repeat 7 exch pop next 3 next", 0);
        Check.due("operands", 3, x.result(6));
        x = Check.ran("5 2 repeat 0 repeat 7 next 1 add next", 0);
        Check.operand(x, 0, 7, 1);
        for (String n : "10 -1 1/2 $A".split(" ")) {
            x = stopped(n + " repeat next", 2, 1);
            Check.due("operands", 1, x.result(6));
        }
        x = Check.ran("3 repeat next", 0);
        Check.due("operators", 1, x.result(3));
    }

    private static void matrix(PageInterpreter x, String entries) {
        String[] due = entries.split(" ");
        for (int i = 0; i < 6; i++) {
            String[] parts = due[i].split("/");
            Check.due("matrix(" + i + ", 0)", Integer.parseInt(parts[0]), x.matrix(i, 0));
            Check.due("matrix(" + i + ", 1)", parts.length < 2 ? 1 : Integer.parseInt(parts[1]), x.matrix(i, 1));
        }
    }

    private static void matrices() {
        matrix(Check.ran("2 3 5 7 11 13 concat", 0), "2 3 5 7 11 13");
        // (1, 2, 3, 4, 5, 6) times (2, 3, 5, 7, 11, 13)
        matrix(Check.ran("2 3 5 7 11 13 concat 1 2 3 4 5 6 concat", 0), "12 17 26 37 51 70");
        matrix(Check.ran("1/2 0 0 1/3 1 1 concat 1 0 0 1 4 4 concat", 0), "1/2 0 0 1/3 3 7/3");
        matrix(Check.ran("1 0 0 1 4 4 concat 1/2 0 0 1/3 1 1 concat", 0), "1/2 0 0 1/3 5 5");
        PageInterpreter x = Check.ran("8 0 1 -1 0 0 0 concat", 0);
        matrix(x, "0 1 -1 0 0 0");
        Check.due("operands", 1, x.result(6));
        Check.operand(x, 0, 8, 1);
        matrix(Check.ran("0 0 0 0 0 0 concat", 0), "0 0 0 0 0 0");
    }

    private static void matrixLimits() {
        String big = "999 0 0 999 0 0 concat ";
        matrix(Check.ran(big + big, 0), "998001 0 0 998001 0 0");
        PageInterpreter x = stopped(big + big + big, 6, 20);
        matrix(x, "998001 0 0 998001 0 0");
        Check.due("operands", 6, x.result(6));
        Check.due("operators", 2, x.result(3));
        // a product alone is too big, though the sum would not be
        x = Check.ran("998 998 1 1 0 0 concat 999 0 0 999 0 0 concat 999 -999 0 0 0 0 concat", 6);
        matrix(x, "997002 997002 999 999 0 0");
        // e A is too big, e A + f C + E is summed from left to right
        String far = "1 0 0 1 999 0 concat ";
        matrix(Check.ran("999 0 0 1 0 0 concat " + far + "1 0 0 1 2 0 concat", 0), "999 0 0 1 999999 0");
        Check.ran("999 0 0 1 0 0 concat " + far + "1 0 0 1 3 0 concat", 6);
        // left to right: 998001 + 998001 is too big before -998001 comes to it
        Check.ran("999 0 999 0 -999 0 concat 1 0 0 1 999 0 concat 1 0 0 1 999 999 concat", 6);
        Check.ran("1 0 0 1 -999 0 concat 999 0 999 0 0 0 concat 1 0 0 1 999 2 concat", 0);
    }

    private static void graphicsStates() {
        PageInterpreter x = Check.ran("save 2 0 0 2 1 1 concat 5 color restore", 0);
        matrix(x, "1 0 0 1 0 0");
        x = Check.ran("2 0 0 2 0 0 concat save 1 0 0 1 1 1 concat save 1 0 0 1 1 1 concat restore restore", 0);
        matrix(x, "2 0 0 2 0 0");
        x = Check.ran("save 3 color 1 0 0 1 2 2 concat save 4 color restore 0 0 1 1 rect fill restore 0 0 1 1 rect fill", 0);
        Check.due("colour in the save", 3, x.item(0, 0));
        Check.due("its point", 32, x.point(0, 0, 0));
        Check.due("colour behind the restore", 1, x.item(1, 0));
        Check.due("its point", 0, x.point(1, 0, 0));
        x = Check.ran("save 0 0 2 2 rect clip drop 0 0 1 1 rect fill restore 0 0 1 1 rect fill", 0);
        Check.due("clips in the save", 1, x.item(0, 4));
        Check.due("clips behind the restore", 0, x.item(1, 4));
        x = Check.ran("3 repeat save 1 0 0 1 1 0 concat 0 0 1 1 rect fill restore next", 0);
        Check.due("the third one begins anew", 16, x.point(2, 0, 0));
        // the next run begins anew
        x = Check.ran("2 0 0 2 0 0 concat 5 color 0 0 2 2 rect clip fill", 0);
        x.run();
        matrix(x, "2 0 0 2 0 0");
        Check.due("colour", 5, x.item(0, 0));
        Check.due("clips", 0, x.item(0, 4));
        Check.due("items", 1, x.result(4));
    }

    private static void colors() {
        for (String n : "16 -1 1/2 999".split(" ")) {
            PageInterpreter x = stopped(n + " color", 2, 1);
            Check.due("operands", 1, x.result(6));
        }
        PageInterpreter x = Check.ran("15 color 0 0 1 1 rect fill 6/2 color 0 0 1 1 rect fill -0 color 0 0 1 1 rect fill", 0);
        Check.due("colour", 15, x.item(0, 0));
        Check.due("colour", 3, x.item(1, 0));
        Check.due("colour", 0, x.item(2, 0));
        x = Check.page("$B color 0 0 1 1 rect fill");
        Check.due("no resource", 3, x.run());
        at(x, 3, -1, 1);
        Check.due("operands", 1, x.result(6));
        x.define(-1, 1, 2, 0);
        Check.due("another kind", 3, x.run());
        x.define(-1, 1, 1, 15);
        Check.due("run", 0, x.run());
        Check.due("colour", 15, x.item(0, 0));
        Check.due("operands", 0, x.result(6));
        x.define(-1, 1, 1, 0);
        Check.due("run", 0, x.run());
        Check.due("colour", 0, x.item(0, 0));
    }

    private static void deviceLimits() {
        String scale = "10 0 0 10 0 0 concat ";
        Check.ran(scale + "100 -100 move drop", 0);
        stopped(scale + "100 100 1/2 add move drop", 6, 11);
        // a half is rounded upward: 16000 1/2 to 16001, -16000 1/2 to -16000
        Check.ran("500 2 mul 1 33 div add 0 move drop", 0);
        Check.ran("500 2 mul 1 32 div add 0 move drop", 6);
        Check.ran("-500 2 mul 1 32 div sub 0 move drop", 0);
        Check.ran("-500 2 mul 1 31 div sub 0 move drop", 6);
        Check.ran("0 500 2 mul 1 32 div add move drop", 6);
        Check.ran("0 -500 2 mul 1 31 div sub move drop", 6);
        stopped("0 0 move 9 999 999 mul line drop", 6, 7);
        // rect looks at x + w and y + h too
        Check.ran("999 999 1 1 rect drop", 0);
        Check.ran("999 999 2 1 rect drop", 6);
        Check.ran("999 999 1 2 rect drop", 6);
        Check.ran("-999 -999 -1 -1 rect drop", 0);
        Check.ran("-999 0 -2 0 rect drop", 6);
        PageInterpreter x = stopped("0 0 999 999 mul 0 rect fill", 6, 6);
        Check.due("operands", 4, x.result(6));
        // x + w or y + h is out of the limit though the device coordinate would not be
        Check.ran("1 999 div 0 0 1 0 0 concat 999 dup mul 0 1 1 rect drop", 0);
        Check.ran("1 999 div 0 0 1 0 0 concat 999 dup mul 0 9 999 mul 1 rect drop", 6);
        Check.ran("1 0 0 1 999 div 0 0 concat 0 999 dup mul 1 9 999 mul rect drop", 6);
        // a sum of the point is out of the limit though the coordinate would not be
        String shifted = "999 0 2 0 0 0 concat 1 0 0 1 -999 0 concat 1 0 0 1 -2 0 concat 999 2 add ";
        Check.ran(shifted + "1 move drop", 6);
        Check.ran(shifted + "1/2 move drop", 0);
        Check.ran("999 0 -999 0 0 0 concat 999 999 move drop", 0);
        Check.ran("998 0 999 0 0 0 concat 999 -998 move drop", 0);
    }

    private static void pointLimit() {
        String six = "0 0 0 0 rect 0 0 0 0 rect 0 0 0 0 rect 0 0 0 0 rect 0 0 0 0 rect 0 0 0 0 rect";
        PageInterpreter x = Check.ran(six + " fill", 0);
        Check.due("points", 24, x.item(0, 3));
        Check.due("parts", 6, x.item(0, 2));
        Check.due("point(0, 23, 0)", 0, x.point(0, 23, 0));
        Check.due("point(0, 24, 0)", Check.NONE, x.point(0, 24, 0));
        stopped(six + " 0 0 move fill", 6, 32);
        stopped(six + " 0 0 0 0 rect fill", 6, 34);
        String five = six.substring(0, 5 * 13 - 1);
        stopped(five + " 0 0 move 0 0 line 0 0 line 0 0 line 0 0 line fill", 6, 39);
        x = stopped(five + " 0 0 move 0 0 0 0 rect fill", 6, 32);
        Check.due("operators", 6, x.result(3));
        // the next path begins with no points
        x = Check.ran(six + " fill 0 0 0 0 rect fill", 0);
        Check.due("points of the next path", 4, x.item(1, 3));
    }

    private static void clipLimit() {
        PageInterpreter x = Check.ran("6 repeat 0 0 1 1 rect clip drop next 0 0 1 1 rect fill", 0);
        Check.due("clips", 6, x.item(0, 4));
        x = stopped("7 repeat 0 0 1 1 rect clip drop next", 6, 8);
        Check.due("operators", 1 + 6 * 3 + 2, x.result(3));
        x = stopped("7 repeat 0 0 1 1 rect xclip fill next", 6, 8);
        Check.due("the last one is not painted", 6, x.result(4));
        Check.ran("6 repeat 0 0 1 1 rect clip drop next 3 repeat 0 0 move drop 0 0 move xfill next", 0);
        Check.ran("6 repeat save 0 0 1 1 rect clip drop restore next 1 repeat 0 0 1 1 rect clip drop next", 0);
    }

    private static void itemLimit() {
        PageInterpreter x = Check.page("6 repeat 5 repeat 0 0 1 1 rect fill next next");
        Check.due("run", 0, x.run());
        Check.due("items", 30, x.result(4));
        x = Check.page("6 repeat 5 repeat 0 0 1 1 rect fill next next 0 0 move drop 0 0 move clip xfill");
        Check.due("run", 6, x.run());
        at(x, 6, -1, 20);
        Check.due("items", 30, x.result(4));
        Check.due("item(29, 6)", 9, x.item(29, 6));
        Check.due("item(30, 6)", Check.NONE, x.item(30, 6));
    }

    private static void drawing() {
        PageInterpreter x = Check.page("1 2 $A draw 3");
        x.define(-1, 0, 2, 4);
        Check.stream(x, 4, "7 color 2 0 0 2 0 0 concat 0 0 1 1 rect clip fill 5 6");
        Check.due("run", 0, x.run());
        Check.due("operands", 3, x.result(6));
        Check.operand(x, 2, 3, 1);
        Check.due("forms at the same time", 1, x.result(5));
        matrix(x, "1 0 0 1 0 0");
        Check.due("stream", 4, x.item(0, 5));
        Check.due("token", 15, x.item(0, 6));
        // colour and clips are those of the page again
        Check.stream(x, -1, "$A draw 0 0 1 1 rect fill $A draw 0 0 1 1 rect fill");
        Check.due("run", 0, x.run());
        Check.due("colour", 7, x.item(0, 0));
        Check.due("colour", 1, x.item(1, 0));
        Check.due("clips", 0, x.item(1, 4));
        Check.due("clips", 0, x.item(2, 4));
        Check.due("operands of the page", 0, x.result(6));
        // the form has its own stack
        Check.stream(x, 4, "pop");
        Check.stream(x, -1, "1 2 $A draw");
        Check.due("run", 2, x.run());
        at(x, 2, 4, 0);
        // a form of no tokens is executed, too
        Check.stream(x, 4, "");
        Check.due("run", 0, x.run());
        Check.due("forms at the same time", 1, x.result(5));
        // its graphics state begins with the one of the page
        Check.stream(x, 4, "0 0 1 1 rect fill");
        Check.stream(x, -1, "9 color 1 0 0 1 2 2 concat 0 0 2 2 rect clip drop save $A draw restore");
        Check.due("run", 0, x.run());
        Check.due("colour", 9, x.item(0, 0));
        Check.due("point", 32, x.point(0, 0, 1));
        Check.due("clips", 1, x.item(0, 4));
    }

    private static void drawErrors() {
        PageInterpreter x = Check.page("5 $A draw");
        Check.due("no resource", 3, x.run());
        at(x, 3, -1, 2);
        Check.due("the name stays", 2, x.result(6));
        Check.operand(x, 1, 0, 0);
        x.define(-1, 0, 1, 2);
        Check.due("another kind", 3, x.run());
        x.define(-1, 0, 2, 3);
        Check.due("no stream", 3, x.run());
        Check.due("operators", 0, x.result(3));
        Check.stream(x, 3, "$A draw");
        Check.due("the form is being executed", 4, x.run());
        at(x, 4, 3, 1);
        Check.due("operators", 1, x.result(3));
        Check.due("the name is gone", 1, x.result(6));
        Check.due("forms", 1, x.result(5));
        Check.stream(x, 3, "$B draw");
        Check.stream(x, 2, "$A draw");
        x.define(-1, 1, 2, 2);
        Check.due("by way of another form", 4, x.run());
        at(x, 4, 2, 1);
        Check.stream(x, -1, "3 draw");
        Check.due("a number", 2, x.run());
        at(x, 2, -1, 1);
        // twice, one after the other, is no recursion
        Check.stream(x, 3, "1");
        Check.stream(x, -1, "$A draw $A draw");
        Check.due("run", 0, x.run());
    }

    private static void nesting() {
        PageInterpreter x = Check.page("$A draw $A draw");
        x.define(-1, 0, 2, 0);
        for (int f = 0; f < 4; f++) {
            Check.stream(x, f, f < 3 ? "$A draw" : "0 0 1 1 rect fill");
            x.define(f, 0, 2, f + 1);
        }
        Check.due("four forms", 0, x.run());
        Check.due("forms at the same time", 4, x.result(5));
        Check.due("items", 2, x.result(4));
        Check.due("trace(4, 2)", 4, x.trace(4, 2));
        Check.due("trace(3, 2)", 3, x.trace(3, 2));
        Check.stream(x, 3, "$A draw");
        Check.due("the fifth has no stream", 3, x.run());
        Check.stream(x, 4, "1");
        Check.due("five forms", 6, x.run());
        at(x, 6, 3, 1);
        Check.due("forms at the same time", 4, x.result(5));
        Check.due("operators", 4, x.result(3));
        x.define(3, 0, 2, 1);
        Check.due("recursion comes before the limit", 4, x.run());
    }

    private static void boxErrors() {
        PageInterpreter x = Check.page("6 repeat 0 0 1 1 rect clip drop next $A draw");
        x.define(-1, 0, 2, 0);
        Check.stream(x, 0, "0 0 1 1 rect fill");
        Check.due("no box", 0, x.run());
        Check.due("clips", 6, x.item(0, 4));
        x.setBox(0, 0, 0, 1, 1);
        Check.due("no room for the box", 6, x.run());
        at(x, 6, -1, 11);
        Check.due("the name stays", 1, x.result(6));
        Check.due("forms", 0, x.result(5));
        Check.stream(x, -1, "5 repeat 0 0 1 1 rect clip drop next $A draw");
        Check.due("room for the box", 0, x.run());
        Check.due("clips", 6, x.item(0, 4));
        Check.stream(x, -1, "999 0 0 1 0 0 concat $A draw");
        Check.due("in the grid", 0, x.run());
        x.setBox(0, 0, 0, 2, 1);
        Check.due("the box is too far", 6, x.run());
        at(x, 6, -1, 8);
        matrix(x, "999 0 0 1 0 0");
        Check.due("items", 0, x.result(4));
        Check.stream(x, -1, "1 0 0 999 0 0 concat $A draw");
        x.setBox(0, 0, -2, 2, -1);
        Check.due("the box is too far", 6, x.run());
        x.setBox(0, 0, -1, 2, 1);
        Check.due("the box is near", 0, x.run());
    }

    private static void endInForm() {
        PageInterpreter x = Check.page("4 5 $A draw 6");
        x.define(-1, 0, 2, 2);
        Check.stream(x, 2, "1 0 0 1 3 3 concat 8 9 pop pop pop");
        Check.due("run", 2, x.run());
        at(x, 2, 2, 11);
        matrix(x, "1 0 0 1 3 3");
        Check.due("operands of the page", 2, x.result(6));
        Check.operand(x, 0, 4, 1);
        Check.operand(x, 1, 5, 1);
        Check.due("operand(2, 0)", Check.NONE, x.operand(2, 0));
        Check.due("operators", 4, x.result(3));
    }

    private static void lookUp() {
        PageInterpreter x = Check.page("$A draw");
        x.define(-1, 0, 2, 0);
        x.define(-1, 1, 2, 1);
        Check.stream(x, 0, "$B draw");
        Check.stream(x, 1, "$C color 0 0 1 1 rect fill");
        Check.due("nowhere", 3, x.run());
        at(x, 3, 1, 1);
        x.define(2, 2, 1, 9);
        x.define(1, 2, 1, 3);
        Check.due("run", 0, x.run());
        Check.due("its own", 3, x.item(0, 0));
        x.removeResource(1, 2);
        x.define(0, 2, 1, 4);
        x.define(-1, 2, 1, 5);
        Check.due("run", 0, x.run());
        Check.due("its caller's", 4, x.item(0, 0));
        x.removeResource(0, 2);
        Check.due("run", 0, x.run());
        Check.due("the page's", 5, x.item(0, 0));
        x.define(0, 2, 2, 5);
        Check.due("one of another kind ends the search", 3, x.run());
        at(x, 3, 1, 1);
        x.removeResource(0, 2);
        // another caller gives another one
        Check.stream(x, -1, "$A draw $B draw");
        x.define(0, 2, 1, 6);
        Check.due("run", 0, x.run());
        Check.due("drawn by the form", 6, x.item(0, 0));
        Check.due("drawn by the page", 5, x.item(1, 0));
    }

    private static void traces() {
        PageInterpreter x = Check.page("2 repeat $A draw next 1 pop");
        x.define(-1, 0, 2, 5);
        Check.stream(x, 5, "1 dup add 0 div");
        x.setBudget(50);
        Check.due("run", 5, x.run());
        at(x, 5, 5, 4);
        int[][] due = {{-1, 1, 0}, {-1, 3, 0}, {5, 1, 1}, {5, 2, 1}};
        traced(x, due);
        Check.stream(x, 5, "1 dup add");
        Check.due("run", 0, x.run());
        traced(x, new int[][] {
            {-1, 1, 0}, {-1, 3, 0}, {5, 1, 1}, {5, 2, 1}, {-1, 3, 0}, {5, 1, 1}, {5, 2, 1}, {-1, 6, 0}
        });
    }

    private static void traced(PageInterpreter x, int[][] due) {
        Check.due("operators", due.length, x.result(3));
        for (int i = 0; i < due.length; i++) {
            for (int what = 0; what < 3; what++) {
                Check.due("trace(" + i + ", " + what + ")", due[i][what], x.trace(i, what));
            }
        }
        Check.due("trace beyond", Check.NONE, x.trace(due.length, 0));
    }

    private static void resultsStay() {
        PageInterpreter x = Check.ran("3 color 0 0 2 2 rect fill 8 add", 2);
        Check.stream(x, -1, "1");
        x.setBudget(1);
        x.define(-1, 0, 1, 1);
        x.setBox(0, 0, 0, 1, 1);
        Check.write(x, "fill");
        x.setStream(-1);
        at(x, 2, -1, 9);
        Check.due("operators", 3, x.result(3));
        Check.due("items", 1, x.result(4));
        Check.due("colour", 3, x.cell(1, 1));
        Check.operand(x, 0, 8, 1);
        for (int i = 0; i < 6; i++) {
            x.undo();
        }
        at(x, 2, -1, 9);
        Check.due("colour", 3, x.item(0, 0));
        Check.stream(x, -1, "");
        Check.due("run", 0, x.run());
        Check.due("items", 0, x.result(4));
        Check.due("operands", 0, x.result(6));
        Check.due("colour", 0, x.cell(1, 1));
        Check.due("result(2)", Check.NONE, x.result(2));
    }

    /** A run that ended anywhere leaves nothing to the next one. */
    private static void runAgain() {
        PageInterpreter x = Check.page("4 save 2 0 0 2 0 0 concat 2 repeat $A draw next restore");
        x.define(-1, 0, 2, 3);
        Check.stream(x, 3, "save 1 0 0 1 1 1 concat 9 color 7 0 0 1 1 rect xclip add fill restore");
        for (int i = 0; i < 3; i++) {
            Check.due("run", 2, x.run());
            at(x, 2, 3, 17);
            matrix(x, "2 0 0 2 2 2");
            Check.due("operands", 1, x.result(6));
            Check.due("operators", 9, x.result(3));
            Check.due("forms", 1, x.result(5));
            Check.due("items", 0, x.result(4));
        }
        Check.stream(x, -1, "0 0 1 1 rect fill 0 0 9 9 rect fill 5");
        for (int i = 0; i < 3; i++) {
            Check.due("run", 0, x.run());
            matrix(x, "1 0 0 1 0 0");
            Check.due("forms", 0, x.result(5));
            Check.due("items", 2, x.result(4));
            Check.due("the mark of the other run is gone", 0, x.item(1, 4));
            Check.due("colour", 1, x.item(1, 0));
            Check.due("points", 4, x.item(0, 3));
            Check.due("cells", 81, x.item(1, 7));
            Check.due("operands", 1, x.result(6));
        }
    }

    private static void manyRuns() {
        PageInterpreter x = Check.page("9 repeat 0 0 2 2 rect 0 0 move 0 9 line 9 0 line clip drop 0 0 9 9 rect xfill next");
        for (int i = 0; i < 300; i++) {
            Check.due("run", 6, x.run());
        }
        at(x, 6, -1, 17);
        Check.due("items", 6, x.result(4));
        Check.due("points", 4, x.item(5, 3));
        Check.due("clips", 6, x.item(5, 4));
        // the triangle goes the other way round, so that the square is cut out of it
        Check.due("cells", 32, x.item(5, 7));
    }

    private static void deepestSaves() {
        PageInterpreter x = new PageInterpreter();
        x.define(-1, 0, 2, 0);
        for (int s = -1; s < 4; s++) {
            String inside = s < 3 ? (s + 3) + "color $Adraw " : "9color ";
            String behind = s < 0 || s == 3 ? "0 0move fill" : "";
            String before = s == 3 ? "8color " : "";
            Check.stream(x, s, before + "save ".repeat(6) + inside + "restore ".repeat(6) + behind);
            if (s >= 0) {
                x.define(s, 0, 2, s + 1);
            }
        }
        Check.due("run", 0, x.run());
        Check.due("the colour behind the deepest restores", 8, x.item(0, 0));
        Check.due("the colour behind those of the page", 1, x.item(1, 0));
        Check.due("operators", 16 + 3 * 14 + 16, x.result(3));
        Check.due("forms", 4, x.result(5));
    }

    private static void manyBoxes() {
        PageInterpreter x = Check.page("9 repeat 9 repeat $A draw $A draw next next 1 1 2 2 rect clip fill 2 color 2 2 5 5 rect fill");
        x.define(-1, 0, 2, 0);
        Check.stream(x, 0, "");
        x.setBox(0, -9, -9, 9, 9);
        x.setBudget(200);
        Check.due("run", 0, x.run());
        Check.due("operators", 178, x.result(3));
        Check.due("point(1, 2, 1)", 112, x.point(1, 2, 1));
        Check.due("points", 4, x.item(1, 3));
        Check.due("clips", 1, x.item(1, 4));
        Check.due("cells", 4, x.item(0, 7));
        Check.due("cells", 1, x.item(1, 7));
        // every operator that is counted draws with a box
        x.setBox(0, 0, 0, 1, 1);
        Check.stream(x, -1, "9 repeat 9 repeat 9 repeat $A draw next next next");
        Check.due("run", 1, x.run());
        Check.due("operators", 200, x.result(3));
        Check.due("forms", 1, x.result(5));
    }

    /** Operators take what they need from the stack, and no more. */
    private static void whatIsLeft() {
        String[] texts = {"0 0 move", "0 0 1 1 rect", "0 0 move 0 0 line", "0 0 move close", "0 0 move clip", "0 0 1 1 rect xclip"};
        for (String text : texts) {
            for (String end : "fill xfill drop".split(" ")) {
                PageInterpreter x = Check.ran("7 8 " + text + " " + end, 0);
                Check.due("operands after " + text + " " + end, 2, x.result(6));
                Check.operand(x, 1, 8, 1);
            }
        }
        texts = new String[] {"2 color", "save restore", "0 repeat next", "1 repeat next", "1 pop", "1 0 0 1 0 0 concat", "$A draw",
            "$B color"};
        for (String text : texts) {
            PageInterpreter x = Check.page("7 8 " + text);
            x.define(-1, 0, 2, 0);
            x.define(-1, 1, 1, 0);
            Check.stream(x, 0, "5 5 5 5 5");
            Check.due("run", 0, x.run());
            Check.due("operands after " + text, 2, x.result(6));
            Check.operand(x, 0, 7, 1);
            Check.operand(x, 1, 8, 1);
        }
        PageInterpreter x = Check.ran("7 1 2 add", 0);
        Check.due("operands", 2, x.result(6));
        x = Check.ran("7 1 2 exch dup", 0);
        Check.due("operands", 4, x.result(6));
        Check.operand(x, 0, 7, 1);
        Check.operand(x, 1, 2, 1);
    }

    private static void orderOfKinds() {
        PageInterpreter x = Check.page("1 pop pop");
        x.setBudget(1);
        Check.due("the budget comes before the operands", 1, x.run());
        x = Check.page("1 pop $A draw");
        x.setBudget(1);
        Check.due("the budget comes before the resource", 1, x.run());
        Check.due("division before the limit", 5, Check.page("999 dup mul 0 div").run());
        Check.due("operands before the division", 2, Check.page("$A 0 div").run());
        String sixteen = "1 1 1 1 1 1 1 1 1 1 1 1 1 1 1 1";
        x = Check.page("pop " + sixteen);
        Check.due("operands", 2, x.run());
        x = Check.page(sixteen + " pop pop dup dup dup 1");
        x.setBudget(4);
        Check.due("a limit stops before the budget does", 1, x.run());
        at(x, 1, -1, 20);
    }
}
