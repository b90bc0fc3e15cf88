/** The boundary cases of streams, boxes, resources and edits: promises 1 to 13, the undo, and errors of calls. */
final class CallBoundaries {
    private static final int LEAST = Integer.MIN_VALUE;
    private static final int MOST = Integer.MAX_VALUE;

    private static final String OBJECT = "What it is";
    private static final String STREAMS = "Streams and resources";
    private static final String UNDO = "Undo";
    private static final String ERRORS = "Errors of calls";
    private static final String P1 = "Promise 1: A new object";
    private static final String P2 = "Promise 2: append";
    private static final String P3 = "Promise 3: clearBuffer";
    private static final String P4 = "Promise 4: setStream";
    private static final String P5 = "Promise 5: tokenCount";
    private static final String P6 = "Promise 6: setBox";
    private static final String P7 = "Promise 7: removeBox";
    private static final String P8 = "Promise 8: define";
    private static final String P9 = "Promise 9: removeResource";
    private static final String P10 = "Promise 10: resource";
    private static final String P11 = "Promise 11: setSize";
    private static final String P12 = "Promise 12: setBudget";
    private static final String P13 = "Promise 13: undo";

    /** Every stream is one too small, one too large, or as far away as numbers go. */
    private static final int[] NO_STREAMS = {-2, 6, -3, 7, LEAST, MOST};
    private static final int[] NO_FORMS = {-1, 6, -2, 7, LEAST, MOST};
    private static final int[] NO_NAMES = {-1, 8, -2, 9, LEAST, MOST};

    private CallBoundaries() { }

    static void all() {
        object();
        streams();
        maps();
        newObject();
        append();
        appendErrors();
        clearBuffer();
        setStream();
        setStreamAnswers();
        setStreamErrors();
        tokenCount();
        setBox();
        boxForms();
        boxSides();
        boxAnswers();
        removeBox();
        define();
        defineArguments();
        defineAnswers();
        removeResource();
        resource();
        setSize();
        sizeArguments();
        setBudget();
        budgetArguments();
        undo();
        undoOfCalls();
        undoOfEdits();
        undoRoom();
        undoKeeps();
        errors();
        errorOrder();
    }

    private static void object() {
        Sentences.held(OBJECT, "An object is used for at most 512 calls after it has been made; what later calls "
                + "answer is free.");
        PageInterpreter x = Check.page("1 1 add");
        for (int call = 10; call <= 512; call++) {
            if (call % 2 == 0) {
                Check.due("run as call " + call, 0, x.run());
            } else {
                Check.due("operand as call " + call, 2, x.operand(0, 0));
            }
        }
        x = new PageInterpreter();
        for (int call = 1; call <= 511; call++) {
            Check.due("setBudget as call " + call, call == 1 ? 120 : (call - 1) % 200 + 1, x.setBudget(call % 200 + 1));
        }
        Check.due("undo as call 512", 5, x.undo());
        x = new PageInterpreter();
        for (int call = 2; call <= 512; call += 2) {
            Check.due("append as call " + (call - 1), 1, x.append('7'));
            Check.due("setStream as call " + call, 1, x.setStream(call / 2 % 7 - 1));
        }
    }

    private static void streams() {
        Sentences.held(STREAMS, "There is a page and there are six forms, numbered from 0 to 5. The page is also "
                + "called the stream -1, a form with its number.");
        PageInterpreter x = new PageInterpreter();
        for (int s = -1; s <= 5; s++) {
            Check.write(x, "1 2 3 4 5 6 7".substring(0, 2 * s + 3));
            Check.due("setStream(" + s + ")", s + 2, x.setStream(s));
        }
        for (int s = -1; s <= 5; s++) {
            Check.due("tokenCount(" + s + ")", s + 2, x.tokenCount(s));
        }
        Check.due("run of the stream -1", 0, x.run());
        Check.due("operands of the stream -1", 1, x.result(6));

        Sentences.held(STREAMS, "Each of them has a stream of tokens, or none (at first none has one).");
        x = new PageInterpreter();
        for (int s = -1; s <= 5; s++) {
            Check.due("tokenCount(" + s + ")", Check.NONE, x.tokenCount(s));
        }
        Check.due("a stream of no tokens", 0, x.setStream(5));
        Check.due("is not none", 0, x.tokenCount(5));
        Check.due("the page has none", Check.ILLEGAL, x.run());
        Check.due("a page of no tokens", 0, x.setStream(-1));
        Check.due("can be run", 0, x.run());
        Check.due("form 4 has none", Check.NONE, x.tokenCount(4));

        Sentences.held(STREAMS, "A form also has a box [x0, x1] by [y0, y1] of integers, or none (at first none).");
        x = drawing("0 0 99 99 rect fill");
        Check.due("run", 0, x.run());
        Check.due("clip paths without a box", 0, x.item(0, 4));
        Check.due("cells without a box", 144, x.item(0, 7));
        for (int f = 0; f <= 5; f++) {
            Check.due("removeBox(" + f + ")", Check.ILLEGAL, x.removeBox(f));
        }
        Check.due("setBox", 0, x.setBox(0, 2, 1, 5, 11));
        Check.due("run", 0, x.run());
        Check.due("cells in [2, 5] by [1, 11]", 30, x.item(0, 7));
    }

    private static void maps() {
        Sentences.held(STREAMS, "Each stream has a map from the names A to H (numbered 0 to 7) to resources, which is "
                + "empty at first.");
        PageInterpreter x = Check.page("$A color 0 0 1 1 rect fill $H color 0 0 1 1 rect fill");
        for (int s = -1; s <= 5; s++) {
            for (int n = 0; n <= 7; n++) {
                Check.due("resource(" + s + ", " + n + ")", Check.NONE, x.resource(s, n));
            }
        }
        Check.due("run with an empty map", 3, x.run());
        x.define(-1, 0, 1, 7);
        x.define(-1, 7, 1, 8);
        Check.due("run", 0, x.run());
        Check.due("the colour of A", 7, x.item(0, 0));
        Check.due("the colour of H", 8, x.item(1, 0));

        Sentences.held(STREAMS, "A resource is a colour, 0 to 15 (kind 1), or a form, 0 to 5 (kind 2).");
        x = new PageInterpreter();
        int[][] right = {{1, 0}, {1, 15}, {2, 0}, {2, 5}};
        int[][] wrong = {{1, -1}, {1, 16}, {2, -1}, {2, 6}, {0, 0}, {3, 0}};
        for (int[] r : right) {
            x.define(0, 0, r[0], r[1]);
            Check.due("resource", 100 * r[0] + r[1], x.resource(0, 0));
        }
        for (int[] w : wrong) {
            Check.due("define of kind " + w[0] + ", " + w[1], Check.INVALID, x.define(0, 0, w[0], w[1]));
        }
        lookUp();
    }

    /** An object whose page draws form 0. */
    private static PageInterpreter drawing(String form) {
        PageInterpreter x = Check.page("$A draw");
        x.define(-1, 0, 2, 0);
        Check.stream(x, 0, form);
        return x;
    }

    private static void lookUp() {
        Sentences.held(STREAMS, "To look a name up in an execution of a stream means: the resource of this name in the "
                + "map of this stream; if there is none, that in the map of the stream that drew this form; and so on, "
                + "up to the page.");
        // the page draws form 0, that form 1, and so on; form 3 paints
        PageInterpreter x = Check.page("$A draw");
        for (int f = 0; f <= 3; f++) {
            x.define(f - 1, 0, 2, f);
            Check.stream(x, f, f < 3 ? "$A draw" : "$H color 0 0 1 1 rect fill");
        }
        Check.due("in no map", 3, x.run());
        Check.due("stream of the error", 3, x.result(1));
        x.define(4, 7, 1, 14);
        x.define(5, 7, 1, 15);
        Check.due("in maps of streams that drew nothing", 3, x.run());
        for (int s = -1; s <= 3; s++) {
            x.define(s, 7, 1, s + 1);
            Check.due("run with H in the map of " + s, 0, x.run());
            Check.due("the nearest one", s + 1, x.item(0, 0));
        }
        Check.stream(x, -1, "$A draw $H color 0 0 1 1 rect fill");
        Check.due("run", 0, x.run());
        Check.due("the page does not look into what it drew", 0, x.item(1, 0));

        Sentences.held(STREAMS, "(One of another kind than is needed ends the search, too.)");
        x = drawing("$B color");
        x.define(-1, 1, 1, 5);
        Check.due("the page's colour", 0, x.run());
        x.define(0, 1, 2, 0);
        Check.due("a form before the page's colour", 3, x.run());
        Check.due("stream of the error", 0, x.result(1));
        x = drawing("$B draw");
        Check.stream(x, 1, "");
        x.define(-1, 1, 2, 1);
        Check.due("the page's form", 0, x.run());
        x.define(0, 1, 1, 0);
        Check.due("a colour before the page's form", 3, x.run());
    }

    private static void newObject() {
        Sentences.held(P1, "Creates an interpreter without streams, boxes and resources, with a grid of 12 by 12 "
                + "cells, a budget of 120 operators, an empty buffer, and without results.");
        PageInterpreter x = new PageInterpreter();
        for (int s = -1; s <= 5; s++) {
            Check.due("tokenCount(" + s + ")", Check.NONE, x.tokenCount(s));
            for (int n = 0; n <= 7; n++) {
                Check.due("resource(" + s + ", " + n + ")", Check.NONE, x.resource(s, n));
            }
        }
        for (int f = 0; f <= 5; f++) {
            Check.due("removeBox(" + f + ")", Check.ILLEGAL, x.removeBox(f));
        }
        Check.due("the last cell", Check.ILLEGAL, x.cell(11, 11));
        Check.due("a column too many", Check.INVALID, x.cell(12, 11));
        Check.due("a row too many", Check.INVALID, x.cell(11, 12));
        Check.due("an empty buffer", 0, x.clearBuffer());
        Check.due("no result", Check.ILLEGAL, x.result(0));
        Check.due("no matrix", Check.ILLEGAL, x.matrix(0, 0));
        Check.due("no item", Check.ILLEGAL, x.item(0, 0));
        Check.due("nothing to undo", Check.ILLEGAL, x.undo());
        Check.stream(x, -1, "");
        x.run();
        Check.due("cells", 144, x.countColor(0));
        // 1 + 7 * (1 + 8 * 2) operators
        x = Check.ran("1 7 repeat 8 repeat dup pop next next", 0);
        Check.due("120 operators", 120, x.result(3));
        x = Check.ran("1 7 repeat 8 repeat dup pop next next dup", 1);
        Check.due("not one more", 120, x.result(3));
        Check.due("the previous budget", 120, new PageInterpreter().setBudget(1));
    }

    private static void append() {
        Sentences.held(P2, "Appends a character to the buffer. - `character`: character code, 1 to 255");
        PageInterpreter x = new PageInterpreter();
        Check.due("append(1)", 1, x.append(1));
        Check.due("append(255)", 2, x.append(255));
        Check.due("the least code is not a space", -10, x.setStream(0));
        x.clearBuffer();
        x.append('1');
        x.append(255);
        Check.due("the greatest code is not a space", -11, x.setStream(0));
        for (int c = 2; c <= 127; c++) {
            Check.due("append(" + c + ")", c + 1, x.append(c));
        }

        Sentences.held(P2, "Returns the new length of the buffer;");
        x = new PageInterpreter();
        for (int i = 1; i <= 160; i++) {
            Check.due("append", i, x.append(i));
        }
        x.clearBuffer();
        Check.due("append to an empty buffer", 1, x.append(' '));
        Check.due("setStream of a space", 0, x.setStream(0));
        Check.due("append after it", 1, x.append(' '));
    }

    private static void appendErrors() {
        Sentences.held(P2, "INVALID_ARGUMENT if character is out of range;");
        PageInterpreter x = new PageInterpreter();
        x.append('1');
        for (int wrong : new int[] {0, -1, 256, 257, 256 + '1', '1' - 256, 65536 + '1', LEAST, MOST}) {
            Check.due("append(" + wrong + ")", Check.INVALID, x.append(wrong));
        }
        Check.due("the length stays", 2, x.append('1'));
        Check.due("setStream", 1, x.setStream(0));

        Sentences.held(P2, "CAPACITY_EXCEEDED if the buffer already has 160 characters.");
        x = new PageInterpreter();
        for (int i = 1; i < 160; i++) {
            x.append(' ');
        }
        Check.due("the last one that has room", 160, x.append('1'));
        for (int i = 0; i < 3; i++) {
            Check.due("one too many", Check.FULL, x.append('2'));
        }
        Check.due("the text is as it was", 1, x.setStream(-1));
        Check.due("run", 0, x.run());
        Check.due("its last character", 1, x.operand(0, 0));
        Check.due("there is room again", 1, x.append('3'));
    }

    private static void clearBuffer() {
        Sentences.held(P3, "Makes the buffer empty.");
        PageInterpreter x = new PageInterpreter();
        Check.write(x, "fill");
        x.clearBuffer();
        Check.due("the length is 0", 0, x.clearBuffer());
        Check.due("no character is left", 0, x.setStream(0));
        fillBuffer(x);
        x.clearBuffer();
        Check.due("a full one is empty, too", 1, x.append('1'));
        Check.due("nothing comes back", 1, x.setStream(0));

        Sentences.held(P3, "Returns the previous length of the buffer.");
        x = new PageInterpreter();
        Check.due("of an empty one", 0, x.clearBuffer());
        x.append(' ');
        Check.due("of a space", 1, x.clearBuffer());
        fillBuffer(x);
        Check.due("of a full one", 160, x.clearBuffer());
        Check.due("of an empty one", 0, x.clearBuffer());
    }

    private static void fillBuffer(PageInterpreter x) {
        for (int i = 0; i < 160; i++) {
            x.append('#');
        }
    }

    private static void setStream() {
        Sentences.held(P4, "Takes the text of the buffer as the stream of the page or of a form, in place of the one "
                + "that it has, and makes the buffer empty.");
        PageInterpreter x = Check.page("1 2 3");
        Check.due("the buffer is empty", 0, x.clearBuffer());
        Check.due("an empty buffer is a stream, too", 0, x.setStream(-1));
        Check.due("in place of the other", 0, x.tokenCount(-1));
        x.run();
        Check.due("nothing is left of it", 0, x.result(6));
        Check.write(x, "1pop".repeat(40));
        Check.due("a full buffer", 80, x.setStream(-1));
        Check.due("is empty again", 0, x.clearBuffer());
        Check.due("run of it", 0, x.run());
        Check.due("operators", 40, x.result(3));

        Sentences.held(P4, "This is an edit.");
        x = new PageInterpreter();
        for (int s = -1; s <= 5; s++) {
            x.setStream(s);
            Check.due("undo of setStream(" + s + ")", 0, x.undo());
            Check.due("tokenCount(" + s + ")", Check.NONE, x.tokenCount(s));
        }
        x.setStream(0);
        Check.write(x, "1");
        x.setStream(0);
        Check.due("undo of the second one", 1, x.undo());
        Check.due("a stream of no tokens comes back", 0, x.tokenCount(0));
    }

    private static void setStreamAnswers() {
        Sentences.held(P4, "- `stream`: -1 for the page, 0 to 5 for a form");
        PageInterpreter x = new PageInterpreter();
        x.append('1');
        Check.due("setStream(-1)", 1, x.setStream(-1));
        Check.due("setStream(0)", 0, x.setStream(0));
        Check.due("setStream(5)", 0, x.setStream(5));
        Check.due("the page's tokens", 1, x.tokenCount(-1));

        Sentences.held(P4, "Returns the number of tokens;");
        x = new PageInterpreter();
        Check.due("none", 0, x.setStream(0));
        Check.write(x, "1");
        Check.due("one", 1, x.setStream(0));
        Check.write(x, "$A1".repeat(53) + "1");
        Check.due("106 in 160 characters", 106, x.setStream(0));
        Check.write(x, "1" + "$A1".repeat(53));
        Check.due("107, as many as there can be", 107, x.setStream(0));
        Check.due("tokenCount", 107, x.tokenCount(0));
    }

    private static void setStreamErrors() {
        Sentences.held(P4, "INVALID_ARGUMENT if stream is out of range;");
        PageInterpreter x = new PageInterpreter();
        Check.write(x, "7");
        for (int wrong : NO_STREAMS) {
            Check.due("setStream(" + wrong + ")", Check.INVALID, x.setStream(wrong));
        }
        Check.due("the buffer is kept", 1, x.clearBuffer());
        Check.due("nothing was saved", Check.ILLEGAL, x.undo());

        Sentences.held(P4, "-10 minus the error position if the text is not a stream (then nothing changes, and the "
                + "buffer is kept).");
        x = Check.page("1 2");
        Check.write(x, "fill");
        Check.due("the error at the beginning", -10, x.setStream(-1));
        Check.due("the stream is as it was", 2, x.tokenCount(-1));
        Check.due("the buffer is kept", 4, x.clearBuffer());
        Check.due("only the first edit was saved", 0, x.undo());
        Check.write(x, "1".concat(" ".repeat(158)).concat("#"));
        Check.due("the error at the last character", -169, x.setStream(-1));
        x.clearBuffer();
        Check.write(x, " ".repeat(156).concat("save"));
        Check.due("the error behind the last character", -170, x.setStream(-1));
        Check.due("the buffer is kept", 160, x.clearBuffer());
        Check.due("there is no stream", Check.NONE, x.tokenCount(-1));
    }

    private static void tokenCount() {
        Sentences.held(P5, "Returns the number of tokens of a stream. - `stream`: -1 to 5 Returns the number of "
                + "tokens;");
        PageInterpreter x = new PageInterpreter();
        x.setStream(-1);
        Check.due("of a stream of no tokens", 0, x.tokenCount(-1));
        Check.stream(x, 5, "1" + "$A1".repeat(53));
        Check.due("of the longest stream", 107, x.tokenCount(5));
        Check.stream(x, 0, " 1 ");
        Check.due("of a token between spaces", 1, x.tokenCount(0));

        Sentences.held(P5, "INVALID_ARGUMENT if stream is out of range;");
        x = new PageInterpreter();
        x.setStream(-1);
        x.setStream(5);
        for (int wrong : NO_STREAMS) {
            Check.due("tokenCount(" + wrong + ")", Check.INVALID, x.tokenCount(wrong));
            Check.due("tokenCount(" + wrong + ") of a new one", Check.INVALID, new PageInterpreter().tokenCount(wrong));
        }

        Sentences.held(P5, "NONE if the page or the form has no stream.");
        x = new PageInterpreter();
        for (int s = -1; s <= 5; s++) {
            Check.due("tokenCount(" + s + ")", Check.NONE, x.tokenCount(s));
            x.setStream(s);
            Check.due("tokenCount(" + s + ")", 0, x.tokenCount(s));
        }
        x.undo();
        Check.due("after the undo", Check.NONE, x.tokenCount(5));
        Check.due("the one before it", 0, x.tokenCount(4));
    }

    /** Form 0 paints all; its box is set, and the cells that are seen are counted. */
    private static void seen(int x0, int y0, int x1, int y1, int cells) {
        PageInterpreter x = drawing("-99 dup 198 dup rect fill");
        String box = "[" + x0 + ", " + x1 + "] by [" + y0 + ", " + y1 + "]";
        Check.due("setBox of " + box, 0, x.setBox(0, x0, y0, x1, y1));
        Check.due("run with " + box, 0, x.run());
        Check.due("cells in " + box, cells, x.item(0, 7));
    }

    private static void refused(int x0, int y0, int x1, int y1) {
        PageInterpreter x = new PageInterpreter();
        Check.due("setBox(0, " + x0 + ", " + y0 + ", " + x1 + ", " + y1 + ")", Check.INVALID,
                x.setBox(0, x0, y0, x1, y1));
        Check.due("removeBox after it", Check.ILLEGAL, x.removeBox(0));
    }

    private static void setBox() {
        Sentences.held(P6, "Sets the box of a form.");
        PageInterpreter x = drawing("0 0 99 99 rect fill");
        x.setBox(0, 1, 1, 2, 2);
        x.setBox(0, 0, 0, 3, 3);
        x.run();
        Check.due("in place of the box before", 9, x.item(0, 7));
        x.setBox(1, 0, 0, 1, 1);
        x.run();
        Check.due("that of another form is another one", 9, x.item(0, 7));

        Sentences.held(P6, "This is an edit.");
        x = drawing("0 0 99 99 rect fill");
        x.setBox(0, 1, 1, 2, 2);
        x.setBox(0, 0, 0, 3, 3);
        Check.due("undo", 4, x.undo());
        x.run();
        Check.due("the box before", 1, x.item(0, 7));
        Check.due("undo", 3, x.undo());
        x.run();
        Check.due("no box", 144, x.item(0, 7));
    }

    private static void boxForms() {
        Sentences.held(P6, "- `form`: 0 to 5");
        PageInterpreter x = new PageInterpreter();
        Check.due("setBox of form 0", 0, x.setBox(0, 0, 0, 1, 1));
        Check.due("setBox of form 5", 0, x.setBox(5, 0, 0, 1, 1));
        for (int f : NO_FORMS) {
            Check.due("setBox of form " + f, Check.INVALID, x.setBox(f, 0, 0, 1, 1));
        }
    }

    private static void boxSides() {
        Sentences.held(P6, "- `x0`: -99 to 99");
        seen(-99, 0, 1, 1, 1);
        seen(98, 0, 99, 1, 0);
        refused(-100, 0, 1, 1);
        refused(99, 0, 99, 1);
        refused(100, 0, 101, 1);
        refused(LEAST, 0, 1, 1);
        refused(MOST, 0, 1, 1);

        Sentences.held(P6, "- `y0`: -99 to 99");
        seen(0, -99, 1, 1, 1);
        seen(0, 98, 1, 99, 0);
        refused(0, -100, 1, 1);
        refused(0, 99, 1, 99);
        refused(0, 100, 1, 101);
        refused(0, LEAST, 1, 1);
        refused(0, MOST, 1, 1);

        Sentences.held(P6, "- `x1`: greater than x0, at most 99");
        seen(3, 0, 4, 1, 1);
        seen(3, 0, 99, 1, 9);
        seen(-99, 0, -98, 1, 0);
        refused(3, 0, 3, 1);
        refused(3, 0, 2, 1);
        refused(3, 0, 100, 1);
        refused(3, 0, LEAST, 1);
        refused(3, 0, MOST, 1);

        Sentences.held(P6, "- `y1`: greater than y0, at most 99");
        seen(0, 3, 1, 4, 1);
        seen(0, 3, 1, 99, 9);
        seen(0, -99, 1, -98, 0);
        refused(0, 3, 1, 3);
        refused(0, 3, 1, 2);
        refused(0, 3, 1, 100);
        refused(0, 3, 1, LEAST);
        refused(0, 3, 1, MOST);
    }

    private static void boxAnswers() {
        Sentences.held(P6, "Returns 1 if the form had a box, otherwise 0;");
        PageInterpreter x = new PageInterpreter();
        Check.due("the first one", 0, x.setBox(0, 0, 0, 1, 1));
        Check.due("the second one", 1, x.setBox(0, 0, 0, 1, 1));
        Check.due("of another form", 0, x.setBox(1, 0, 0, 1, 1));
        x.removeBox(0);
        Check.due("after removeBox", 0, x.setBox(0, 0, 0, 1, 1));
        x.undo();
        Check.due("after the undo of it", 0, x.setBox(0, 0, 0, 1, 1));

        Sentences.held(P6, "INVALID_ARGUMENT if an argument is out of range.");
        x = drawing("0 0 99 99 rect fill");
        x.setBox(0, 0, 0, 2, 2);
        Check.due("one that is wrong", Check.INVALID, x.setBox(0, 5, 5, 5, 6));
        Check.due("all of them wrong", Check.INVALID, x.setBox(6, -100, 100, 100, -100));
        x.run();
        Check.due("the box is as it was", 4, x.item(0, 7));
        x.undo();
        Check.due("nothing was saved of the wrong ones", Check.ILLEGAL, x.removeBox(0));
    }

    private static void removeBox() {
        Sentences.held(P7, "Removes the box of a form.");
        PageInterpreter x = drawing("0 0 99 99 rect fill");
        x.setBox(0, 0, 0, 1, 1);
        x.setBox(1, 0, 0, 1, 1);
        x.removeBox(0);
        x.run();
        Check.due("clip paths", 0, x.item(0, 4));
        Check.due("cells", 144, x.item(0, 7));
        Check.due("the other form has its box", 1, x.removeBox(1));

        Sentences.held(P7, "This is an edit.");
        x = drawing("0 0 99 99 rect fill");
        x.setBox(0, 0, 0, 2, 3);
        x.removeBox(0);
        Check.due("undo", 4, x.undo());
        x.run();
        Check.due("the box is there again", 6, x.item(0, 7));

        Sentences.held(P7, "- `form`: 0 to 5 Returns 1;");
        x = new PageInterpreter();
        for (int f : new int[] {0, 5}) {
            x.setBox(f, 0, 0, 1, 1);
            Check.due("removeBox(" + f + ")", 1, x.removeBox(f));
        }

        Sentences.held(P7, "INVALID_ARGUMENT if form is out of range;");
        x = new PageInterpreter();
        for (int f : NO_FORMS) {
            Check.due("removeBox(" + f + ")", Check.INVALID, x.removeBox(f));
        }

        Sentences.held(P7, "ILLEGAL_STATE if it has no box.");
        x = new PageInterpreter();
        Check.due("of a new object", Check.ILLEGAL, x.removeBox(0));
        Check.due("of the last form", Check.ILLEGAL, x.removeBox(5));
        x.setBox(0, 0, 0, 1, 1);
        Check.due("of the other form", Check.ILLEGAL, x.removeBox(1));
        x.removeBox(0);
        Check.due("a second time", Check.ILLEGAL, x.removeBox(0));
        Check.due("which saved nothing", 1, x.undo());
    }

    private static void define() {
        Sentences.held(P8, "Defines a resource in the map of a stream, in place of the one that the name has there.");
        PageInterpreter x = new PageInterpreter();
        x.define(-1, 0, 1, 15);
        x.define(-1, 0, 2, 5);
        Check.due("a form in place of a colour", 205, x.resource(-1, 0));
        x.define(-1, 0, 1, 0);
        Check.due("a colour in place of a form", 100, x.resource(-1, 0));
        Check.due("not in another map", Check.NONE, x.resource(0, 0));
        Check.due("not of another name", Check.NONE, x.resource(-1, 1));
        x.define(-1, 7, 1, 1);
        Check.due("the last name of a map is not the first of the next", Check.NONE, x.resource(0, 0));

        Sentences.held(P8, "This is an edit.");
        x = new PageInterpreter();
        x.define(5, 7, 1, 3);
        x.define(5, 7, 1, 3);
        Check.due("undo", 1, x.undo());
        Check.due("resource", 103, x.resource(5, 7));
        Check.due("undo", 0, x.undo());
        Check.due("resource", Check.NONE, x.resource(5, 7));
    }

    private static void defineArguments() {
        Sentences.held(P8, "- `stream`: -1 to 5");
        PageInterpreter x = new PageInterpreter();
        defined(x, -1, 0, 1, 0);
        defined(x, 5, 0, 1, 0);
        for (int s : NO_STREAMS) {
            Check.due("define in " + s, Check.INVALID, x.define(s, 0, 1, 0));
        }

        Sentences.held(P8, "- `name`: 0 to 7");
        x = new PageInterpreter();
        defined(x, 3, 0, 1, 0);
        defined(x, 3, 7, 1, 0);
        for (int n : NO_NAMES) {
            Check.due("define of name " + n, Check.INVALID, x.define(0, n, 1, 0));
        }

        Sentences.held(P8, "- `kind`: 1 colour, 2 form");
        x = new PageInterpreter();
        defined(x, 1, 1, 1, 5);
        defined(x, 1, 1, 2, 5);
        for (int kind : new int[] {0, 3, -1, LEAST, MOST}) {
            Check.due("define of kind " + kind, Check.INVALID, x.define(0, 0, kind, 0));
        }

        Sentences.held(P8, "- `value`: 0 to 15 for a colour, 0 to 5 for a form");
        x = new PageInterpreter();
        for (int[] right : new int[][] {{1, 0}, {1, 6}, {1, 15}, {2, 0}, {2, 5}}) {
            defined(x, 2, 2, right[0], right[1]);
        }
        for (int[] w : new int[][] {{1, -1}, {1, 16}, {1, LEAST}, {1, MOST}, {2, -1}, {2, 6}, {2, 15}, {2, LEAST},
            {2, MOST}}) {
            Check.due("define of kind " + w[0] + ", " + w[1], Check.INVALID, x.define(2, 2, w[0], w[1]));
        }
    }

    private static void defineAnswers() {
        Sentences.held(P8, "Returns 1 if the name had a resource there, otherwise 0;");
        PageInterpreter x = new PageInterpreter();
        Check.due("the first one", 0, x.define(0, 0, 1, 0));
        Check.due("the colour 0 was one", 1, x.define(0, 0, 2, 0));
        Check.due("the form 0 was one", 1, x.define(0, 0, 2, 0));
        Check.due("another stream", 0, x.define(1, 0, 1, 0));
        Check.due("another name", 0, x.define(0, 1, 1, 0));
        x.removeResource(0, 0);
        Check.due("after removeResource", 0, x.define(0, 0, 1, 0));
        x.undo();
        Check.due("after the undo of it", 0, x.define(0, 0, 1, 0));

        Sentences.held(P8, "INVALID_ARGUMENT if an argument is out of range.");
        x = new PageInterpreter();
        x.define(0, 0, 1, 9);
        Check.due("one that is wrong", Check.INVALID, x.define(0, 0, 1, 16));
        Check.due("all of them wrong", Check.INVALID, x.define(-2, 8, 0, -1));
        Check.due("the resource is as it was", 109, x.resource(0, 0));
        Check.due("nothing was saved of the wrong ones", 0, x.undo());
    }

    private static void defined(PageInterpreter x, int stream, int name, int kind, int value) {
        x.define(stream, name, kind, value);
        Check.due("resource(" + stream + ", " + name + ")", 100 * kind + value, x.resource(stream, name));
    }

    private static void removeResource() {
        Sentences.held(P9, "Removes a resource from the map of a stream.");
        PageInterpreter x = new PageInterpreter();
        x.define(0, 3, 1, 9);
        x.define(1, 3, 1, 8);
        x.define(0, 4, 1, 7);
        x.removeResource(0, 3);
        Check.due("it is gone", Check.NONE, x.resource(0, 3));
        Check.due("not from another map", 108, x.resource(1, 3));
        Check.due("not of another name", 107, x.resource(0, 4));

        Sentences.held(P9, "This is an edit.");
        x = new PageInterpreter();
        x.define(0, 3, 1, 9);
        x.removeResource(0, 3);
        Check.due("undo", 1, x.undo());
        Check.due("it is there again", 109, x.resource(0, 3));

        Sentences.held(P9, "- `stream`: -1 to 5 - `name`: 0 to 7 Returns 100 * kind + value of the resource;");
        x = new PageInterpreter();
        int[][] all = {{-1, 0, 1, 0}, {-1, 7, 1, 15}, {5, 0, 2, 0}, {5, 7, 2, 5}};
        for (int[] r : all) {
            x.define(r[0], r[1], r[2], r[3]);
            Check.due("removeResource", 100 * r[2] + r[3], x.removeResource(r[0], r[1]));
        }

        Sentences.held(P9, "INVALID_ARGUMENT if an argument is out of range;");
        x = new PageInterpreter();
        for (int s : NO_STREAMS) {
            Check.due("removeResource of stream " + s, Check.INVALID, x.removeResource(s, 0));
        }
        for (int n : NO_NAMES) {
            Check.due("removeResource of name " + n, Check.INVALID, x.removeResource(0, n));
        }

        Sentences.held(P9, "ILLEGAL_STATE if the name has no resource there.");
        x = new PageInterpreter();
        Check.due("of a new object", Check.ILLEGAL, x.removeResource(-1, 0));
        x.define(-1, 0, 2, 0);
        Check.due("of another stream", Check.ILLEGAL, x.removeResource(0, 0));
        Check.due("of another name", Check.ILLEGAL, x.removeResource(-1, 1));
        Check.due("of the last one", Check.ILLEGAL, x.removeResource(5, 7));
        x.removeResource(-1, 0);
        Check.due("a second time", Check.ILLEGAL, x.removeResource(-1, 0));
        Check.due("which saved nothing", 1, x.undo());
    }

    private static void resource() {
        Sentences.held(P10, "Returns a resource of the map of a stream. - `stream`: -1 to 5 - `name`: 0 to 7 Returns "
                + "100 * kind + value;");
        PageInterpreter x = new PageInterpreter();
        int[][] all = {{-1, 0, 1, 0}, {-1, 7, 1, 15}, {5, 0, 2, 0}, {5, 7, 2, 5}};
        for (int[] r : all) {
            x.define(r[0], r[1], r[2], r[3]);
        }
        for (int[] r : all) {
            Check.due("resource", 100 * r[2] + r[3], x.resource(r[0], r[1]));
        }

        Sentences.held(P10, "INVALID_ARGUMENT if an argument is out of range;");
        x = new PageInterpreter();
        for (int s : NO_STREAMS) {
            Check.due("resource of stream " + s, Check.INVALID, x.resource(s, 0));
        }
        for (int n : NO_NAMES) {
            Check.due("resource of name " + n, Check.INVALID, x.resource(0, n));
        }

        Sentences.held(P10, "NONE if the name has no resource there.");
        x = new PageInterpreter();
        x.define(-1, 0, 1, 0);
        x.define(5, 7, 2, 5);
        Check.due("next to the first", Check.NONE, x.resource(-1, 1));
        Check.due("next to the last", Check.NONE, x.resource(5, 6));
        Check.due("it is not looked for in the page's map", Check.NONE, x.resource(0, 0));
        x.removeResource(5, 7);
        Check.due("after removeResource", Check.NONE, x.resource(5, 7));
    }

    private static void setSize() {
        Sentences.held(P11, "Sets the size of the grid.");
        PageInterpreter x = Check.ran("", 0);
        x.setSize(4, 24);
        Check.due("the last cell", 0, x.cell(3, 23));
        Check.due("a column too many", Check.INVALID, x.cell(4, 23));
        Check.due("a row too many", Check.INVALID, x.cell(3, 24));
        x.setSize(24, 4);
        Check.due("the last cell", 0, x.cell(23, 3));
        Check.due("a column too many", Check.INVALID, x.cell(24, 3));
        Check.due("a row too many", Check.INVALID, x.cell(23, 4));

        Sentences.held(P11, "This is an edit.");
        x = Check.ran("", 0);
        x.setSize(4, 24);
        x.setSize(24, 4);
        Check.due("undo", 2, x.undo());
        Check.due("the cells are those of before", 0, x.cell(3, 23));
        x.setSize(4, 24);
        Check.due("one that changes nothing is an edit, too", 2, x.undo());
    }

    private static void sizeArguments() {
        Sentences.held(P11, "- `width`: 4 to 24");
        PageInterpreter x = new PageInterpreter();
        for (int w : new int[] {4, 24}) {
            Check.due("setSize(" + w + ", 10)", 10 * w, x.setSize(w, 10));
        }
        for (int w : new int[] {3, 25, 0, -4, LEAST, MOST}) {
            Check.due("setSize(" + w + ", 10)", Check.INVALID, x.setSize(w, 10));
        }

        Sentences.held(P11, "- `height`: 4 to 24");
        x = new PageInterpreter();
        for (int h : new int[] {4, 24}) {
            Check.due("setSize(10, " + h + ")", 10 * h, x.setSize(10, h));
        }
        for (int h : new int[] {3, 25, 0, -4, LEAST, MOST}) {
            Check.due("setSize(10, " + h + ")", Check.INVALID, x.setSize(10, h));
        }

        Sentences.held(P11, "Returns the number of cells;");
        x = new PageInterpreter();
        Check.due("of the smallest grid", 16, x.setSize(4, 4));
        Check.due("of the greatest grid", 576, x.setSize(24, 24));
        Check.due("of an uneven one", 96, x.setSize(24, 4));

        Sentences.held(P11, "INVALID_ARGUMENT if an argument is out of range.");
        x = Check.ran("", 0);
        Check.due("width", Check.INVALID, x.setSize(3, 4));
        Check.due("height", Check.INVALID, x.setSize(4, 25));
        Check.due("both", Check.INVALID, x.setSize(25, 3));
        Check.due("the size is as it was", 144, x.countColor(0));
        Check.due("nothing was saved of the wrong ones", 0, x.undo());
    }

    private static void setBudget() {
        Sentences.held(P12, "Sets the budget.");
        PageInterpreter x = Check.page("1 dup dup");
        x.setBudget(1);
        Check.due("run of two operators", 1, x.run());
        Check.due("operators", 1, x.result(3));
        x.setBudget(2);
        Check.due("run of two operators", 0, x.run());
        // 1 + 9 * (1 + 7 * 3) operators, and those behind them
        String text = "1 9 repeat 7 repeat 1 pop dup pop next next dup";
        x = Check.page(text);
        x.setBudget(200);
        Check.due("run of 200 operators", 0, x.run());
        Check.due("operators", 200, x.result(3));
        Check.stream(x, -1, text + " dup");
        Check.due("run of 201 operators", 1, x.run());
        Check.due("operators", 200, x.result(3));

        Sentences.held(P12, "This is an edit.");
        x = Check.page("1 dup dup");
        x.setBudget(1);
        Check.due("undo", 1, x.undo());
        Check.due("run", 0, x.run());
    }

    private static void budgetArguments() {
        Sentences.held(P12, "- `operators`: 1 to 200");
        PageInterpreter x = new PageInterpreter();
        x.setBudget(1);
        Check.due("1 was set", 1, x.setBudget(200));
        Check.due("200 was set", 200, x.setBudget(2));

        Sentences.held(P12, "Returns the previous budget;");
        x = new PageInterpreter();
        Check.due("the first one", 120, x.setBudget(120));
        Check.due("the second one", 120, x.setBudget(199));
        x.setBudget(0);
        Check.due("a refused one is none", 199, x.setBudget(7));
        x.undo();
        Check.due("nor is one that was undone", 199, x.setBudget(8));

        Sentences.held(P12, "INVALID_ARGUMENT if operators is out of range.");
        x = new PageInterpreter();
        for (int wrong : new int[] {0, 201, -1, 202, LEAST, MOST}) {
            Check.due("setBudget(" + wrong + ")", Check.INVALID, x.setBudget(wrong));
        }
        Check.due("nothing was saved of the wrong ones", Check.ILLEGAL, x.undo());
        Check.due("the budget is as it was", 120, x.setBudget(1));
    }

    private static void undo() {
        Sentences.held(P13, "Restores the most recently saved state.");
        PageInterpreter x = new PageInterpreter();
        x.setBudget(1);
        x.setBudget(2);
        x.setBudget(3);
        x.undo();
        Check.due("the latest but one", 2, x.setBudget(9));
        x.undo();
        x.undo();
        Check.due("the one before", 1, x.setBudget(9));

        Sentences.held(P13, "Returns the number of states that are still saved;");
        x = new PageInterpreter();
        for (int i = 1; i <= 6; i++) {
            x.setBudget(i);
        }
        for (int left = 5; left >= 0; left--) {
            Check.due("undo", left, x.undo());
        }

        Sentences.held(P13, "ILLEGAL_STATE if none was saved.");
        x = new PageInterpreter();
        x.setBudget(1);
        x.undo();
        Check.due("when all was undone", Check.ILLEGAL, x.undo());
        Check.due("again", Check.ILLEGAL, x.undo());
        Check.due("the budget of the beginning", 120, x.setBudget(5));
        Check.due("an edit makes it possible", 0, x.undo());
        Check.due("once", Check.ILLEGAL, x.undo());
        Check.due("on a new object", Check.ILLEGAL, new PageInterpreter().undo());
    }

    private static void undoOfCalls() {
        Sentences.held(UNDO, "The state consists of the streams, boxes, resources, the size of the grid and the "
                + "budget.");
        PageInterpreter x = drawing("0 0 99 99 rect fill");
        Check.stream(x, -1, "$A draw $A draw");
        x.setBox(0, 0, 0, 2, 2);
        x.define(-1, 0, 2, 1);
        x.setSize(4, 4);
        x.setBudget(3);
        Check.stream(x, 0, "");
        Check.due("undo of setStream", 5, x.undo());
        Check.due("the stream", 6, x.tokenCount(0));
        Check.due("undo of setBudget", 4, x.undo());
        Check.due("undo of setSize", 3, x.undo());
        Check.due("undo of define", 2, x.undo());
        Check.due("the resource", 200, x.resource(-1, 0));
        Check.due("the budget is enough", 0, x.run());
        Check.due("operators", 6, x.result(3));
        Check.due("the size", 140, x.countColor(0));
        Check.due("the box", 4, x.countColor(1));
        Check.due("undo of setBox", 1, x.undo());
        Check.due("run", 0, x.run());
        Check.due("no box", 144, x.countColor(1));
        Check.due("undo of setStream", 0, x.undo());
        Check.due("the page", 2, x.tokenCount(-1));
    }

    private static void undoOfEdits() {
        Sentences.held(UNDO, "Every successful call of a method of the section \"page and forms\" whose description "
                + "says that it is an edit saves the state that preceded it;");
        PageInterpreter x = new PageInterpreter();
        x.setStream(0);
        x.setStream(0);
        Check.due("setStream that changes nothing", 1, x.undo());
        x.setBox(0, 0, 0, 1, 1);
        x.setBox(0, 0, 0, 1, 1);
        Check.due("setBox that changes nothing", 2, x.undo());
        x.define(0, 0, 1, 0);
        x.define(0, 0, 1, 0);
        Check.due("define that changes nothing", 3, x.undo());
        x.setSize(12, 12);
        Check.due("setSize that changes nothing", 3, x.undo());
        x.setBudget(120);
        Check.due("setBudget that changes nothing", 3, x.undo());
        x.append('1');
        x.clearBuffer();
        x.setStream(-1);
        x.run();
        x.append('#');
        refuseAll(x);
        Check.due("neither calls that are no edits nor refused ones", 3, x.undo());

        Sentences.held(UNDO, "undo() restores the most recently saved state and discards it.");
        x = new PageInterpreter();
        x.setBudget(1);
        x.undo();
        Check.due("it is discarded", Check.ILLEGAL, x.undo());
        x.setBudget(2);
        x.setBudget(3);
        x.undo();
        x.setBudget(4);
        Check.due("undo of the latest edit", 1, x.undo());
        Check.due("undo of the first", 0, x.undo());
        Check.due("what was before it", 120, x.setBudget(5));
    }

    private static void undoRoom() {
        Sentences.held(UNDO, "At most 6 states are saved; when a seventh is saved, the oldest one is discarded.");
        PageInterpreter x = new PageInterpreter();
        for (int i = 1; i <= 6; i++) {
            x.setBudget(i);
        }
        for (int left = 5; left >= 0; left--) {
            Check.due("undo of one of six", left, x.undo());
        }
        Check.due("the state before the first edit", 120, x.setBudget(1));
        for (int i = 2; i <= 7; i++) {
            x.setBudget(i);
        }
        for (int left = 5; left >= 0; left--) {
            Check.due("undo of one of the last six of seven", left, x.undo());
        }
        Check.due("the seventh", Check.ILLEGAL, x.undo());
        Check.due("the state behind the first edit", 1, x.setBudget(1));
        for (int i = 1; i <= 40; i++) {
            x.setBudget(i);
        }
        for (int left = 5; left >= 0; left--) {
            x.undo();
        }
        Check.due("the state before the last six of many", 34, x.setBudget(1));
    }

    private static void undoKeeps() {
        Sentences.held(UNDO, "The buffer and the results of the latest run stay.");
        PageInterpreter x = Check.page("7 0 0 1 1 rect fill add");
        x.run();
        Check.write(x, "abc");
        Check.due("undo", 0, x.undo());
        Check.due("the page is gone", Check.ILLEGAL, x.run());
        Check.due("the error kind", 2, x.result(0));
        Check.due("the operand", 7, x.operand(0, 0));
        Check.due("the item", 4, x.item(0, 3));
        Check.due("the cell", 1, x.cell(0, 0));
        Check.due("the buffer", 4, x.append('d'));
    }

    /** Calls that are refused, each for another reason. */
    private static void refuseAll(PageInterpreter x) {
        Check.due("setStream", -10, x.setStream(-1));
        Check.due("setStream", Check.INVALID, x.setStream(6));
        Check.due("setBox", Check.INVALID, x.setBox(0, 1, 1, 1, 2));
        Check.due("removeBox", Check.ILLEGAL, x.removeBox(5));
        Check.due("define", Check.INVALID, x.define(0, 0, 2, 6));
        Check.due("removeResource", Check.ILLEGAL, x.removeResource(5, 7));
        Check.due("setSize", Check.INVALID, x.setSize(25, 24));
        Check.due("setBudget", Check.INVALID, x.setBudget(201));
        Check.due("append", Check.INVALID, x.append(256));
    }

    private static void errors() {
        Sentences.held(ERRORS, "A call that returns an error code changes nothing.");
        PageInterpreter x = Check.page("5 color 0 0 1 1 rect fill 9");
        x.run();
        x.setBox(0, 0, 0, 1, 1);
        x.define(0, 0, 1, 9);
        x.append('#');
        refuseAll(x);
        Check.due("the buffer", 2, x.append('#'));
        Check.due("the stream", 9, x.tokenCount(-1));
        Check.due("the resource", 109, x.resource(0, 0));
        Check.due("the size", 143, x.countColor(0));
        Check.due("the box", 1, x.removeBox(0));
        Check.due("the budget", 120, x.setBudget(1));
        Check.due("the saved states", 4, x.undo());
        x.undo();
        x.undo();
        x.undo();
        Check.due("undo", 0, x.undo());
        Check.due("run without a page", Check.ILLEGAL, x.run());
        Check.due("the results", 3, x.result(3));
        Check.due("the operand", 9, x.operand(0, 0));
        Check.due("the cell", 5, x.cell(0, 0));
    }

    private static void errorOrder() {
        Sentences.held(ERRORS, "If several error conditions apply, the method returns the one that its description "
                + "lists first; NONE is no error, and it is returned only if no error condition applies.");
        PageInterpreter x = new PageInterpreter();
        fillBuffer(x);
        Check.due("append: range before room", Check.INVALID, x.append(0));
        Check.due("append: range before room", Check.INVALID, x.append(256));
        Check.due("setStream: range before text", Check.INVALID, x.setStream(6));
        Check.due("removeBox: range before state", Check.INVALID, x.removeBox(6));
        Check.due("removeResource: range before state", Check.INVALID, x.removeResource(6, 0));
        Check.due("result: range before state", Check.INVALID, x.result(7));
        Check.due("operand: range before state", Check.INVALID, x.operand(0, 2));
        Check.due("operand: state before NONE", Check.ILLEGAL, x.operand(MOST, 0));
        Check.due("matrix: range before state", Check.INVALID, x.matrix(6, 0));
        Check.due("trace: range before state", Check.INVALID, x.trace(-1, 0));
        Check.due("trace: state before NONE", Check.ILLEGAL, x.trace(MOST, 0));
        Check.due("cell: range before state", Check.INVALID, x.cell(12, 0));
        Check.due("countColor: range before state", Check.INVALID, x.countColor(16));
        Check.due("itemAt: range before state", Check.INVALID, x.itemAt(0, 12));
        Check.due("itemAt: state before NONE", Check.ILLEGAL, x.itemAt(0, 0));
        Check.due("item: range before state", Check.INVALID, x.item(0, 9));
        Check.due("item: state before NONE", Check.ILLEGAL, x.item(MOST, 0));
        Check.due("point: range before state", Check.INVALID, x.point(0, 0, 2));
        Check.due("point: state before NONE", Check.ILLEGAL, x.point(MOST, MOST, 1));
        Check.due("bound: range before state", Check.INVALID, x.bound(0, 4));
        Check.due("bound: state before NONE", Check.ILLEGAL, x.bound(MOST, 0));
        Check.due("doubleArea: range before state", Check.INVALID, x.doubleArea(-1));
        Check.due("doubleArea: state before NONE", Check.ILLEGAL, x.doubleArea(MOST));
        x = Check.ran("", 0);
        Check.due("operand: range before NONE", Check.INVALID, x.operand(MOST, 2));
        Check.due("trace: range before NONE", Check.INVALID, x.trace(MOST, 3));
        Check.due("item: range before NONE", Check.INVALID, x.item(MOST, 9));
        Check.due("point: range before NONE", Check.INVALID, x.point(MOST, 0, 2));
        Check.due("bound: range before NONE", Check.INVALID, x.bound(MOST, 4));
    }
}
