/** The boundary cases of the operators, of the graphics state and of matrices and paths. */
final class OperatorBoundaries {
    private static final String OPERATORS = "Operators";
    private static final String GRAPHICS = "Graphics state, matrices and paths";

    private static final String SIXTEEN = "1 ".repeat(16);

    private OperatorBoundaries() { }

    static void all() {
        stack();
        states();
        matrixOperator();
        pathOperators();
        ends();
        colors();
        draws();
        loops();
        stackOperators();
        arithmetic();
        numbersOnly();
        lowestTerms();
        graphicsState();
        matrices();
        rounding();
        points();
    }

    /** A run of a page that ends with an error at a token of the page. */
    static PageInterpreter stopped(String text, int kind, int token) {
        PageInterpreter x = Check.ran(text, kind);
        Check.due("stream of the error of " + text, -1, x.result(1));
        Check.due("token of the error of " + text, token, x.result(2));
        return x;
    }

    /** Compares the matrix at the end: six entries, with a denominator where it is not 1. */
    static void matrix(PageInterpreter x, String entries) {
        String[] due = entries.split(" ");
        for (int i = 0; i < 6; i++) {
            String[] parts = due[i].split("/");
            Check.due("matrix(" + i + ", 0)", Integer.parseInt(parts[0]), x.matrix(i, 0));
            Check.due("matrix(" + i + ", 1)", parts.length < 2 ? 1 : Integer.parseInt(parts[1]), x.matrix(i, 1));
        }
    }

    /** Compares the points of an item: x and y by turns. */
    static void points(PageInterpreter x, int item, int... due) {
        Check.due("points of item " + item, due.length / 2, x.item(item, 3));
        for (int i = 0; i < due.length; i++) {
            Check.due("point(" + item + ", " + i / 2 + ", " + i % 2 + ")", due[i], x.point(item, i / 2, i % 2));
        }
    }

    /** An object whose page draws form 0. */
    static PageInterpreter drawing(String form) {
        PageInterpreter x = Check.page("$A draw");
        x.define(-1, 0, 2, 0);
        Check.stream(x, 0, form);
        return x;
    }

    /** The operator needs these operands: one less is an error, and what lies below them stays. */
    private static void needs(String before, String operands, String word, String behind) {
        int count = operands.split(" ").length;
        String fewer = count == 1 ? "" : operands.substring(operands.indexOf(' ') + 1) + " ";
        int token = (before.isEmpty() ? 0 : before.trim().split(" ").length) + count - 1;
        PageInterpreter x = stopped(before + fewer + word + behind, 2, token);
        Check.due("operands that stay before " + word, count - 1, x.result(6));
        x = Check.ran(before + operands + " " + word + behind, 0);
        int left = x.result(6);
        x = Check.ran("$C " + before + operands + " " + word + behind, 0);
        Check.due("one more below " + word, left + 1, x.result(6));
        Check.operand(x, 0, 2, 0);
    }

    private static void stack() {
        Sentences.held(OPERATORS, "Numbers and names are put on the operand stack when they are executed; operators "
                + "take their operands from its top (the last one named below is on top):");
        PageInterpreter x = Check.ran("5 $H -2/3", 0);
        Check.operand(x, 0, 5, 1);
        Check.operand(x, 1, 7, 0);
        Check.operand(x, 2, -2, 3);
        x = Check.ran("0 repeat 5 next", 0);
        Check.due("what is not executed is not put there", 0, x.result(6));
        needs("", "1 0 0 1 0 0", "concat", "");
        needs("", "0 0", "move", " drop");
        needs("0 0 move ", "0 0", "line", " drop");
        needs("", "0 0 1 1", "rect", " drop");
        needs("", "3", "color", "");
        needs("", "0", "repeat", " next");
        needs("", "3", "dup", "");
        needs("", "3", "pop", "");
        needs("", "3 4", "exch", "");
        for (String word : "add sub mul div".split(" ")) {
            needs("", "3 4", word, "");
        }
        stopped("draw", 2, 0);
        Check.operand(Check.ran("7 2 sub", 0), 0, 5, 1);
        points(Check.ran("5 6 move fill", 0), 0, 80, 96);
    }

    private static void states() {
        Sentences.held(OPERATORS, "save puts a copy of the graphics state on the state stack");
        PageInterpreter x = Check.page("save2color ".concat("save3color save4color save5color save6color save7color ")
                + "$Adraw restore".repeat(6) + "$Adraw");
        x.define(-1, 0, 2, 0);
        Check.stream(x, 0, "0 0 move fill");
        Check.due("run", 0, x.run());
        for (int i = 0; i < 7; i++) {
            Check.due("colour behind " + i + " restores", 7 - i, x.item(i, 0));
        }
        x = Check.ran("save save save save save save 2 0 0 2 1 1 concat 0 0 move clip drop restore restore restore "
                + "restore restore restore 0 0 move fill", 0);
        matrix(x, "1 0 0 1 0 0");
        Check.due("clip paths", 0, x.item(0, 4));
        // the clip path is not the first path of the run
        x = Check.ran("0 0 move drop 2 2 3 3 rect clip drop save 0 0 9 9 rect fill restore", 0);
        Check.due("the clip path is copied", 9, x.item(0, 7));

        Sentences.held(OPERATORS, "restore makes the latest copy the graphics state, and removes it from the state "
                + "stack");
        x = Check.ran("2 color save 3 color save 4 color restore 0 0 move fill restore 0 0 move fill", 0);
        Check.due("the latest copy", 3, x.item(0, 0));
        Check.due("the one before it", 2, x.item(1, 0));
        x = Check.ran("save 5 color restore save restore 0 0 move fill", 0);
        Check.due("the copy that was removed is not there", 1, x.item(0, 0));
        x = Check.ran("7 repeat 5 repeat save 1 0 0 1 1 0 concat restore next next", 0);
        Check.due("many pairs", 0, x.result(0));
        matrix(x, "1 0 0 1 0 0");
        stopped("3 4 save restore pop pop pop", 2, 6);
    }

    private static void matrixOperator() {
        Sentences.held(OPERATORS, "a b c d e f concat the new matrix is (a, b, c, d, e, f) times the present one (see "
                + "below)");
        matrix(Check.ran("2 3 5 7 11 13 concat", 0), "2 3 5 7 11 13");
        matrix(Check.ran("0 0 0 0 0 0 concat", 0), "0 0 0 0 0 0");
        matrix(Check.ran("1/2 -1/3 0 -0 0/5 999 concat", 0), "1/2 -1/3 0 0 0 999");
        // the new one stands on the left: first it moves, then the present one scales
        matrix(Check.ran("2 0 0 2 0 0 concat 1 0 0 1 3 4 concat", 0), "2 0 0 2 6 8");
        matrix(Check.ran("1 0 0 1 3 4 concat 2 0 0 2 0 0 concat", 0), "2 0 0 2 3 4");
    }

    private static void pathOperators() {
        Sentences.held(OPERATORS, "x y move begins a path part at (x, y)");
        PageInterpreter x = Check.ran("0 0 move fill 5 -6 move 7 8 move fill", 0);
        points(x, 0, 0, 0);
        points(x, 1, 80, -96, 112, 128);
        Check.due("parts", 2, x.item(1, 2));

        Sentences.held(OPERATORS, "x y line adds the point (x, y) to the present part");
        x = Check.ran("0 0 move 0 0 line 1 2 line fill", 0);
        points(x, 0, 0, 0, 0, 0, 16, 32);
        Check.due("parts", 1, x.item(0, 2));

        Sentences.held(OPERATORS, "close ends the present part");
        x = Check.ran("1 1 move close 2 2 move close fill", 0);
        points(x, 0, 16, 16, 32, 32);
        Check.due("parts", 2, x.item(0, 2));
        Check.due("operators", 5, x.result(3));

        Sentences.held(OPERATORS, "x y w h rect begins and ends a part with the points (x, y), (x + w, y), (x + w, y + "
                + "h), (x, y + h)");
        x = Check.ran("1 2 3 4 rect fill 1 2 -3 -4 rect fill 1 2 0 0 rect fill 1/2 0 1/4 1/8 rect fill", 0);
        points(x, 0, 16, 32, 64, 32, 64, 96, 16, 96);
        points(x, 1, 16, 32, -32, 32, -32, -32, 16, -32);
        points(x, 2, 16, 32, 16, 32, 16, 32, 16, 32);
        points(x, 3, 8, 0, 12, 0, 12, 2, 8, 2);
        x = Check.ran("0 0 1 1 rect 0 0 1 1 rect fill 0 0 move 0 0 1 1 rect fill", 0);
        Check.due("parts of two", 2, x.item(0, 2));
        Check.due("parts of a move and a rect", 2, x.item(1, 2));
    }

    private static void ends() {
        String twice = "0 0 3 3 rect 1 1 1 1 rect ";
        String all = " 0 0 9 9 rect fill";
        Sentences.held(OPERATORS, "clip, xclip marks the path as a clip path with the nonzero rule, or with the odd "
                + "rule");
        Check.due("by clip", 9, Check.ran(twice + "clip drop" + all, 0).item(0, 7));
        Check.due("by xclip", 8, Check.ran(twice + "xclip drop" + all, 0).item(0, 7));
        Check.due("by clip before the second part", 9, Check.ran("0 0 3 3 rect clip 1 1 1 1 rect drop" + all,
                0).item(0, 7));
        Check.due("by xclip before the second part", 8,
                Check.ran("0 0 3 3 rect xclip 1 1 1 1 rect drop" + all, 0).item(0, 7));
        Check.due("by clip, painted by the odd rule", 9, Check.ran(twice + "clip xfill" + all, 0).item(1, 7));
        Check.due("by xclip, painted by the nonzero rule", 8, Check.ran(twice + "xclip fill" + all, 0).item(1, 7));
        PageInterpreter x = Check.ran(twice + "xclip drop " + twice + "clip drop" + all, 0);
        Check.due("one after the other", 8, x.item(0, 7));

        Sentences.held(OPERATORS, "fill, xfill paints the path by the nonzero rule, or by the odd rule, and ends the "
                + "path");
        x = Check.ran(twice + "fill " + twice + "xfill 2 2 move fill", 0);
        Check.due("by fill", 9, x.item(0, 7));
        Check.due("by xfill", 8, x.item(1, 7));
        Check.due("the rule of fill", 0, x.item(0, 1));
        Check.due("the rule of xfill", 1, x.item(1, 1));
        Check.due("the next path is another one", 1, x.item(2, 3));
        Check.due("a path of one point is painted, too", 0, x.item(2, 7));

        Sentences.held(OPERATORS, "drop ends the path without painting it");
        x = Check.ran("0 0 9 9 rect drop 0 0 move fill", 0);
        Check.due("items", 1, x.result(4));
        Check.due("points of the next path", 1, x.item(0, 3));
        Check.due("clip paths without a mark", 0, x.item(0, 4));
    }

    private static void colors() {
        Sentences.held(OPERATORS, "v color sets the colour: v is an integer from 0 to 15, or a name of a colour");
        for (int c = 0; c <= 15; c++) {
            Check.due("colour " + c, c, Check.ran(c + " color 0 0 move fill", 0).item(0, 0));
        }
        Check.due("30/2", 15, Check.ran("30/2 color 0 0 move fill", 0).item(0, 0));
        Check.due("-0", 0, Check.ran("-0 color 0 0 move fill", 0).item(0, 0));
        for (String v : "-1 16 17 999 -15 1/2 31/2 -1/9".split(" ")) {
            PageInterpreter x = stopped("3 color " + v + " color 0 0 move fill", 2, 3);
            Check.due("operands", 1, x.result(6));
        }
        PageInterpreter x = Check.page("$A color 0 0 move fill $H color 0 0 move fill");
        x.define(-1, 0, 1, 0);
        x.define(-1, 7, 1, 15);
        Check.due("run", 0, x.run());
        Check.due("the least colour", 0, x.item(0, 0));
        Check.due("the greatest colour", 15, x.item(1, 0));
        Check.due("the names are taken", 0, x.result(6));
    }

    private static void draws() {
        Sentences.held(OPERATORS, "v draw draws a form: v is a name of a form");
        PageInterpreter x = Check.page("$A draw $H draw");
        x.define(-1, 0, 2, 0);
        x.define(-1, 7, 2, 5);
        Check.stream(x, 0, "0 0 move fill");
        Check.stream(x, 5, "0 0 move fill");
        Check.due("run", 0, x.run());
        Check.due("the first form", 0, x.item(0, 5));
        Check.due("the last form", 5, x.item(1, 5));
        Check.due("the names are taken", 0, x.result(6));
        for (String v : "0 5 -1 1/2".split(" ")) {
            stopped(v + " draw", 2, 1);
        }
    }

    private static void loops() {
        Sentences.held(OPERATORS, "n repeat, next executes the tokens between repeat and its next n times; n is an "
                + "integer from 0 to 9");
        for (int n = 0; n <= 9; n++) {
            PageInterpreter x = Check.ran("0 " + n + " repeat 1 add next", 0);
            Check.due("operands", 1, x.result(6));
            Check.operand(x, 0, n, 1);
            Check.due("operators", n + 1, x.result(3));
        }
        Check.operand(Check.ran("0 18/2 repeat 1 add next", 0), 0, 9, 1);
        Check.operand(Check.ran("0 -0 repeat 1 add next", 0), 0, 0, 1);
        for (String n : "-1 10 11 999 -9 1/2 19/2 $A".split(" ")) {
            PageInterpreter x = stopped("0 " + n + " repeat 1 add next", 2, 2);
            Check.due("operands", 2, x.result(6));
        }
        PageInterpreter x = Check.ran("3 repeat next 0 repeat next", 0);
        Check.due("nothing between them", 2, x.result(3));
        x = Check.ran("0 7 repeat 5 repeat 2 repeat 1 add next next next", 0);
        Check.operand(x, 0, 70, 1);
        x = Check.ran("0 0 repeat 2 repeat 0 repeat 1 add next next next 7 add", 0);
        Check.operand(x, 0, 7, 1);
        Check.due("operators", 2, x.result(3));
        x = Check.ran("0 3 repeat 0 repeat 1 add next 1 repeat 10 add next next", 0);
        Check.operand(x, 0, 30, 1);
    }

    private static void stackOperators() {
        Sentences.held(OPERATORS, "v dup puts v on the stack twice (v is a number or a name)");
        PageInterpreter x = Check.ran("-5/2 dup $H dup", 0);
        Check.due("operands", 4, x.result(6));
        Check.operand(x, 0, -5, 2);
        Check.operand(x, 1, -5, 2);
        Check.operand(x, 2, 7, 0);
        Check.operand(x, 3, 7, 0);
        stopped("dup", 2, 0);
        Check.due("operands", 16, Check.ran("1 ".repeat(15) + "dup", 0).result(6));
        Check.due("operands", 16, stopped(SIXTEEN + "dup", 6, 16).result(6));

        Sentences.held(OPERATORS, "v pop removes v (a number or a name)");
        Check.due("a number", 0, Check.ran("1 pop", 0).result(6));
        Check.due("a name", 0, Check.ran("$A pop", 0).result(6));
        x = Check.ran("1 2 pop", 0);
        Check.due("operands", 1, x.result(6));
        Check.operand(x, 0, 1, 1);
        stopped("pop", 2, 0);
        stopped("1 pop pop", 2, 2);
        Check.due("all of 16", 0, Check.ran(SIXTEEN + "pop ".repeat(16), 0).result(6));

        Sentences.held(OPERATORS, "v w exch exchanges v and w (numbers or names)");
        x = Check.ran("9 1 $B exch", 0);
        Check.due("operands", 3, x.result(6));
        Check.operand(x, 0, 9, 1);
        Check.operand(x, 1, 1, 0);
        Check.operand(x, 2, 1, 1);
        x = Check.ran("$A 3 exch", 0);
        Check.operand(x, 0, 3, 1);
        Check.operand(x, 1, 0, 0);
        stopped("1 exch", 2, 1);
        stopped("exch", 2, 0);
        Check.due("on a full stack", 16, Check.ran(SIXTEEN + "exch", 0).result(6));
    }

    private static void gives(String text, int numerator, int denominator) {
        PageInterpreter x = Check.ran(text, 0);
        Check.due("operands of " + text, 1, x.result(6));
        Check.operand(x, 0, numerator, denominator);
    }

    private static void arithmetic() {
        Sentences.held(OPERATORS, "x y add, x y sub, x y mul, x y div puts x + y, x - y, x * y, x / y");
        gives("7 -7 add", 0, 1);
        gives("1/2 1/3 add", 5, 6);
        gives("-1/2 1/3 add", -1, 6);
        gives("2 5 sub", -3, 1);
        gives("1/6 2/3 sub", -1, 2);
        gives("0 -9 sub", 9, 1);
        gives("-2/3 -9/4 mul", 3, 2);
        gives("0 -9 mul", 0, 1);
        gives("2 -6 div", -1, 3);
        gives("-2 -6 div", 1, 3);
        gives("1/2 3/4 div", 2, 3);
        gives("0 -9 div", 0, 1);
        Check.due("on a full stack", 15, Check.ran(SIXTEEN + "add", 0).result(6));
    }

    private static void numbersOnly() {
        Sentences.held(OPERATORS, "All other operands are numbers.");
        for (String word : "add sub mul div".split(" ")) {
            stopped("1 $A " + word, 2, 2);
            stopped("$A 1 " + word, 2, 2);
        }
        stopped("1 $A move drop", 2, 2);
        stopped("$A 1 move drop", 2, 2);
        stopped("$A 0 0 move 1 line drop", 2, 5);
        stopped("$A 0 0 move 1 exch line drop", 2, 6);
        for (int name = 0; name < 6; name++) {
            String[] operands = {"1", "0", "0", "1", "0", "0"};
            operands[name] = "$A";
            stopped(String.join(" ", operands) + " concat", 2, 6);
            if (name < 4) {
                stopped(String.join(" ", operands).substring(0, 8) + " rect drop", 2, 4);
            }
        }
        stopped("$A repeat next", 2, 1);
    }

    private static void lowestTerms() {
        Sentences.held(OPERATORS, "A number on the stack is a fraction in lowest terms with a positive denominator.");
        gives("6/4", 3, 2);
        gives("-6/4", -3, 2);
        gives("8/4", 2, 1);
        gives("0/7", 0, 1);
        gives("-0/7", 0, 1);
        gives("999/9", 111, 1);
        gives("1 -4 div", -1, 4);
        gives("-6 -4 div", 3, 2);
        gives("5 -5 div", -1, 1);
        gives("1/2 1/2 sub", 0, 1);
        gives("1/6 1/3 add", 1, 2);
        gives("2/3 3/2 mul", 1, 1);
    }

    private static void graphicsState() {
        Sentences.held(GRAPHICS, "The graphics state consists of a matrix of six fractions (a, b, c, d, e, f), a "
                + "colour, and a list of clip paths.");
        PageInterpreter x = Check.ran("save 1/2 1/3 1/4 1/5 1/6 1/7 concat 9 color 0 0 9 9 rect clip drop 0 0 move "
                + "fill restore 0 0 move fill", 0);
        matrix(x, "1 0 0 1 0 0");
        Check.due("the colour in the save", 9, x.item(0, 0));
        Check.due("the clip paths in the save", 1, x.item(0, 4));
        Check.due("the colour behind it", 1, x.item(1, 0));
        Check.due("the clip paths behind it", 0, x.item(1, 4));

        Sentences.held(GRAPHICS, "At the beginning of a run it has the matrix (1, 0, 0, 1, 0, 0), the colour 1 and no "
                + "clip paths.");
        x = Check.ran("", 0);
        matrix(x, "1 0 0 1 0 0");
        Check.stream(x, -1, "0 0 move fill 2 3 5 7 1 3 concat 9 color 0 0 1 1 rect clip drop");
        for (int i = 0; i < 3; i++) {
            Check.due("run", 0, x.run());
            matrix(x, "2 3 5 7 1 3");
            Check.due("the colour", 1, x.item(0, 0));
            Check.due("the clip paths", 0, x.item(0, 4));
            points(x, 0, 0, 0);
        }
        // also behind a run that ended with an error in a save, in a path that was marked
        Check.stream(x, -1, "save save 2 3 5 7 1 3 concat 9 color 0 0 move clip add drop restore restore");
        Check.due("run", 2, x.run());
        Check.stream(x, -1, "0 0 move fill 0 0 move fill");
        Check.due("run", 0, x.run());
        matrix(x, "1 0 0 1 0 0");
        Check.due("the colour", 1, x.item(1, 0));
        Check.due("the clip paths", 0, x.item(1, 4));
        points(x, 0, 0, 0);
    }

    /** The matrix (1001, 0, 1001, 0, -999999, 0). */
    private static final String FAR = "999 2 add 0 0 1 0 0 concat 1 0 0 1 -999 0 concat 1 0 1 0 0 0 concat ";

    private static void matrices() {
        Sentences.held(GRAPHICS, "The matrix takes a point (x, y) to (x', y') with x' = a * x + c * y + e and y' = b * "
                + "x + d * y + f.");
        PageInterpreter x = Check.ran("2 3 5 7 11 13 concat 1 2 move 0 0 line -1 -2 line fill", 0);
        points(x, 0, 16 * 23, 16 * 30, 16 * 11, 16 * 13, -16, -16 * 4);
        x = Check.ran("0 0 0 0 0 0 concat 5 7 3 3 rect fill", 0);
        points(x, 0, 0, 0, 0, 0, 0, 0, 0, 0);

        Sentences.held(GRAPHICS, "The product of a matrix (a, b, c, d, e, f) and a matrix (A, B, C, D, E, F) is (a * A "
                + "+ b * C, a * B + b * D, c * A + d * C, c * B + d * D, e * A + f * C + E, e * B + f * D + F).");
        matrix(Check.ran("2 3 5 7 11 13 concat 1 2 3 4 5 6 concat", 0), "12 17 26 37 51 70");
        matrix(Check.ran("2 3 5 7 11 13 concat 0 0 0 0 0 0 concat", 0), "0 0 0 0 11 13");
        matrix(Check.ran("2 3 5 7 11 13 concat 1 0 0 1 0 0 concat", 0), "2 3 5 7 11 13");

        Sentences.held(GRAPHICS, "All these sums are computed from left to right.");
        // x' = 1001 x + 1001 y - 999999: 999999 + 1 is just small enough, 999999 + 2 is not, though x' would be 2
        x = Check.ran(FAR + "999 1 999 2 add div move fill", 0);
        matrix(x, "1001 0 1001 0 -999999 0");
        points(x, 0, 16, 0);
        stopped(FAR + "999 2 999 2 add div move fill", 6, 29);
        // e * A + f * C + E, the same sum
        x = Check.ran(FAR + "1 0 0 1 999 1 999 2 add div concat", 0);
        matrix(x, "1001 0 1001 0 1 0");
        x = stopped(FAR + "1 0 0 1 999 2 999 2 add div concat", 6, 33);
        matrix(x, "1001 0 1001 0 -999999 0");
    }

    private static void rounding() {
        Sentences.held(GRAPHICS, "A device coordinate is the number of sixteenths in x' or y', rounded to the nearest "
                + "integer (a half upward): 16 * x' + 1/2, rounded down");
        // a 32nd is half a sixteenth
        String[] numbers = {"0", "1 32 div", "-1 32 div", "1 33 div", "-1 33 div", "1 31 div", "-1 31 div", "3 32 div",
            "-3 32 div", "1 16 div", "-1 16 div", "1/3", "-1/3"};
        int[] due = {0, 1, 0, 0, 0, 1, -1, 2, -1, 1, -1, 5, -5};
        for (int i = 0; i < numbers.length; i++) {
            PageInterpreter x = Check.ran(numbers[i] + " 0 move 0 " + numbers[i] + " line fill", 0);
            Check.due("x of " + numbers[i], due[i], x.point(0, 0, 0));
            Check.due("y of " + numbers[i], due[i], x.point(0, 1, 1));
        }

        Sentences.held(GRAPHICS, "(in this, only the coordinate that comes out is limited, see below).");
        // 999999/1000 and 1/998001: sixteen times the one, and a half more than the other, have great parts
        PageInterpreter x = Check.ran("500 2 mul 1 500 2 mul div sub 1 999 div 999 div move fill", 0);
        points(x, 0, 16000, 0);
        x = Check.ran("1 999 div 999 div -1 999 div 999 div move fill", 0);
        points(x, 0, 0, 0);
    }

    private static void points() {
        Sentences.held(GRAPHICS, "The points of a path are taken to device coordinates by the matrix at the moment "
                + "when they are added (first x', then y').");
        PageInterpreter x = Check.ran("2 0 0 3 0 0 concat 1 1 move fill 5 0 0 5 0 0 concat 1 1 move fill", 0);
        points(x, 0, 32, 48);
        points(x, 1, 160, 240);
        x = Check.ran("0 0 2 2 rect clip drop 3 0 0 3 0 0 concat 0 0 2 2 rect fill", 0);
        Check.due("a clip path keeps its points", 4, x.item(0, 7));

        String rect = "0 0 1 1 rect ";
        Sentences.held(GRAPHICS, "A path has at most 24 points in all its parts.");
        x = Check.ran(rect.repeat(6) + "fill " + rect.repeat(3) + "fill", 0);
        Check.due("points", 24, x.item(0, 3));
        Check.due("points of the next path", 12, x.item(1, 3));
        x = stopped(rect.repeat(6) + "1 1 move fill", 6, 32);
        Check.due("no item", 0, x.result(4));
        Check.due("its operands stay", 2, x.result(6));
        stopped(rect.repeat(5) + "1 1 move " + rect + "fill", 6, 32);
        stopped(rect.repeat(6) + rect + "fill", 6, 34);
        x = Check.ran(rect.repeat(5) + "1 1 move 1 1 line 1 1 line 1 1 line fill", 0);
        Check.due("points", 24, x.item(0, 3));
        stopped(rect.repeat(5) + "1 1 move 1 1 line 1 1 line 1 1 line 1 1 line fill", 6, 39);
        x = Check.ran(rect.repeat(5) + "1 1 move 1 1 move 1 1 move 1 1 move drop 1 1 move fill", 0);
        Check.due("a path of the next points", 1, x.item(0, 3));

        Sentences.held(GRAPHICS, "For painting and clipping, each part is a closed polygon (with one or two points it "
                + "covers nothing).");
        for (String part : new String[] {"5 5 move ", "0 0 move 9 9 line ", "9 9 move 0 0 line ",
                "0 9 move 0 0 line close ",
            "5 5 move close "}) {
            x = Check.ran(part + "fill " + part + "xfill " + part + "clip drop 0 0 12 12 rect fill", 0);
            for (int item = 0; item < 3; item++) {
                Check.due("cells of item " + item + " of " + part, 0, x.item(item, 7));
            }
        }
        x = Check.ran("0 0 move 9 0 line 0 9 line fill 0 0 9 9 rect 5 5 move 9 0 line xfill", 0);
        Check.due("three points do", 36, x.item(0, 7));
        Check.due("besides another part they change nothing", 81, x.item(1, 7));
    }
}
