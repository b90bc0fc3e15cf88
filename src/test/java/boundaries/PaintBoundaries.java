/** The boundary cases of painting: the grid, the rules, items, and promises 19 to 25. */
final class PaintBoundaries {
    private static final int LEAST = Integer.MIN_VALUE;
    private static final int MOST = Integer.MAX_VALUE;

    private static final String PAINTING = "Painting";
    private static final String P19 = "Promise 19: cell";
    private static final String P20 = "Promise 20: countColor";
    private static final String P21 = "Promise 21: itemAt";
    private static final String P22 = "Promise 22: item";
    private static final String P23 = "Promise 23: point";
    private static final String P24 = "Promise 24: bound";
    private static final String P25 = "Promise 25: doubleArea";

    /** Cells that a grid of 12 by 12 has not. */
    private static final int[][] NO_CELLS = {
        {-1, 0}, {0, -1}, {12, 0}, {0, 12}, {12, 12}, {LEAST, 0}, {0, LEAST}, {MOST, 0}, {0, MOST}
    };

    private PaintBoundaries() { }

    static void all() {
        grid();
        centres();
        upward();
        downward();
        rightOf();
        rules();
        items();
        covering();
        itemRoom();
        colors();
        clips();
        cell();
        countColor();
        itemAt();
        itemProperties();
        itemErrors();
        point();
        bound();
        doubleArea();
    }

    /** Compares the cells of the uppermost rows; a dot is the colour 0. */
    private static void picture(PageInterpreter x, String... rows) {
        for (int y = 0; y < rows.length; y++) {
            for (int column = 0; column < rows[y].length(); column++) {
                char c = rows[y].charAt(column);
                Check.due("cell(" + column + ", " + y + ")", c == '.' ? 0 : Character.digit(c, 16), x.cell(column, y));
            }
        }
    }

    private static void grid() {
        Sentences.held(PAINTING, "The grid has a width and a height, 4 to 24 (at first 12 and 12).");
        PageInterpreter x = Check.ran("-99 dup 198 dup rect fill", 0);
        Check.due("cells at first", 144, x.item(0, 7));
        Check.due("the last one", 1, x.cell(11, 11));
        Check.due("none behind it", Check.INVALID, x.cell(12, 11));
        for (int[] size : new int[][] {{4, 4}, {24, 24}, {4, 24}, {24, 4}}) {
            x.setSize(size[0], size[1]);
            Check.due("cells", size[0] * size[1], x.item(0, 7));
            Check.due("the last one", 1, x.cell(size[0] - 1, size[1] - 1));
            Check.due("a column too many", Check.INVALID, x.cell(size[0], 0));
            Check.due("a row too many", Check.INVALID, x.cell(0, size[1]));
        }
    }

    private static void centres() {
        Sentences.held(PAINTING, "The centre of the cell (x, y) has the device coordinates (16 * x + 8, 16 * y + 8).");
        // squares of two sixteenths around the centres of cells, and next to them
        String square = " 1 16 div sub dup 1/8 dup rect fill";
        picture(Check.ran("1/2" + square, 0), "1.", "..");
        picture(Check.ran("7/2" + square, 0), "....", "....", "....", "...1");
        Check.due("the centre of the last cell", 1, Check.ran("23/2" + square, 0).cell(11, 11));
        Check.due("a corner of four cells", 0, Check.ran("1" + square, 0).item(0, 7));
        PageInterpreter x = Check.ran("47/2" + square, 0);
        x.setSize(24, 24);
        Check.due("the centre of the last cell of the greatest grid", 1, x.cell(23, 23));
    }

    /** The part of a row that a rectangle from the left to the right side covers, its height being the grid's. */
    private static void columns(String left, String right, String row) {
        PageInterpreter x = Check.ran(left + " 0 " + right + " " + left + " sub 9 rect fill", 0);
        picture(x, row);
    }

    private static void upward() {
        Sentences.held(PAINTING, "For a path and a point (X, Y), each edge from (X1, Y1) to (X2, Y2) of its polygons "
                + "counts 1 if Y1 is at most Y and Y2 is greater than Y,");
        // the right edge of the triangle goes up from 8 sixteenths, from 9, or to 8, to 9: the centre of a cell is at 8
        picture(Check.ran("0 1/2 move 5 1/2 line 5 3 line fill", 0), "11111", "..111");
        picture(Check.ran("0 9 16 div move 5 9 16 div line 5 3 line fill", 0), ".....", "..111");
        picture(Check.ran("0 0 move 5 0 line 5 1/2 line 0 1/2 line fill", 0), ".....", ".....");
        picture(Check.ran("0 0 move 5 0 line 5 9 16 div line 0 9 16 div line fill", 0), "11111", ".....");
    }

    private static void downward() {
        Sentences.held(PAINTING, "-1 if Y2 is at most Y and Y1 is greater than Y,");
        // the same heights, the other way round
        picture(Check.ran("0 1/2 move 0 3 line 5 3 line 5 1/2 line fill", 0), "11111", "11111", "11111", ".....");
        picture(Check.ran("0 9 16 div move 0 3 line 5 3 line 5 9 16 div line fill", 0), ".....", "11111", "11111");
        picture(Check.ran("0 0 move 0 1/2 line 5 1/2 line 5 0 line fill", 0), ".....", ".....");
        picture(Check.ran("0 0 move 0 9 16 div line 5 9 16 div line 5 0 line fill", 0), "11111", ".....");
        // a part that goes on from another one, which it meets at the height of the centres
        picture(Check.ran("0 0 move 5 0 line 5 1/2 line 5 9 line 0 9 line 0 1/2 line xfill", 0), "11111", "11111");
        picture(Check.ran("0 0 move 0 1/2 line 0 9 line 5 9 line 5 1/2 line 5 0 line xfill", 0), "11111", "11111");
        // a corner that only touches the height of the centres does not count
        picture(Check.ran("0 0 4 1 rect 5 1/2 move 6 1 line 5 2 line fill", 0), "1111..", ".....");
        picture(Check.ran("0 0 4 1 rect 6 0 move 8 1/2 line 10 0 line fill", 0), "1111......");
    }

    private static void rightOf() {
        Sentences.held(PAINTING, "in both cases only if the point of the edge at the height Y lies to the right of X "
                + "(not at X); otherwise 0.");
        // the centres stand at 1/2, 3/2 and so on; an edge through a centre is not to the right of it
        columns("1/2", "7/2", "111.");
        columns("9 16 div", "7/2", ".11.");
        columns("1/2", "57 16 div", "1111.");
        columns("7 16 div", "55 16 div", "111.");
        columns("7/2", "1/2", "111.");
        columns("1/2", "1/2", "...");
        columns("1/2", "9 16 div", "1..");
        // slopes: through centres, a sixteenth to the left, and one to the right
        picture(Check.ran("0 0 move 4 0 line 0 4 line fill", 0), "111.", "11..", "1...", "....");
        picture(Check.ran("0 0 move 63 16 div 0 line 0 63 16 div line fill", 0), "111.", "11..", "1...", "....");
        picture(Check.ran("0 0 move 65 16 div 0 line 0 65 16 div line fill", 0), "1111.", "111..", "11...", "1....");
        picture(Check.ran("4 0 move 0 4 line 4 4 line fill", 0), "...1", "..11", ".111", "1111");
        picture(Check.ran("4 4 move 0 4 line 4 0 line xfill", 0), "...1", "..11", ".111", "1111");
        // an edge from (8, 7) to (9, 10) sixteenths is a third of a sixteenth to the right of the centre, to (7, 10)
        // to the left
        picture(Check.ran("1/2 7 16 div move 9 16 div 5/8 line 0 5/8 line fill", 0), "1.");
        picture(Check.ran("0 5/8 move 9 16 div 5/8 line 1/2 7 16 div line fill", 0), "1.");
        picture(Check.ran("1/2 7 16 div move 7 16 div 5/8 line 0 5/8 line fill", 0), "..");
        picture(Check.ran("0 5/8 move 7 16 div 5/8 line 1/2 7 16 div line fill", 0), "..");
        // a flat slope over the widest path, where a sixteenth of its end moves the edge by far less
        picture(Check.ran("500 2 mul 1 move -500 2 mul 0 line -500 2 mul 1 line fill", 0), "............");
        picture(Check.ran("500 2 mul 1 move -500 2 mul 0 line -500 2 mul -1 line fill", 0), "111111111111", "....");
        picture(Check.ran("-999 dup move 999 dup line -999 999 line fill", 0), "....", "1...", "11..", "111.");
        picture(Check.ran("-999 dup move 999 dup line 999 -999 line fill", 0), "1111", ".111", "..11", "...1");
    }

    private static void rules() {
        Sentences.held(PAINTING, "By the nonzero rule the path covers the point if the sum is not 0, by the odd rule "
                + "if it is odd.");
        String one = "0 0 2 2 rect ";
        String back = "2 0 -2 2 rect ";
        // the paths, and which rules cover a cell
        String[] paths = {one, back, one + one, back + back, one + back, one + one + one, back + back + back,
            one + one + back, one + back + back, one.repeat(6), one.repeat(5)};
        int[] nonzero = {4, 4, 4, 4, 0, 4, 4, 4, 4, 4, 4};
        int[] odd = {4, 4, 0, 0, 0, 4, 4, 4, 4, 0, 4};
        for (int i = 0; i < paths.length; i++) {
            Check.due("by the nonzero rule " + paths[i], nonzero[i], Check.ran(paths[i] + "fill", 0).item(0, 7));
            Check.due("by the odd rule " + paths[i], odd[i], Check.ran(paths[i] + "xfill", 0).item(0, 7));
            String all = " drop 0 0 9 9 rect fill";
            Check.due("clipped by the nonzero rule " + paths[i], nonzero[i],
                    Check.ran(paths[i] + "clip" + all, 0).item(0, 7));
            Check.due("clipped by the odd rule " + paths[i], odd[i], Check.ran(paths[i] + "xclip" + all, 0).item(0, 7));
        }
    }

    private static void items() {
        Sentences.held(PAINTING, "An item is made by each fill and xfill: it has the path, the rule, the colour and "
                + "the clip paths of the graphics state at this moment.");
        PageInterpreter x = Check.ran("0 0 3 3 rect clip fill 5 color 0 0 1 1 rect xfill 7 color 0 0 2 2 rect clip "
                + "drop", 0);
        Check.due("items", 2, x.result(4));
        Check.due("its own path is not yet a clip path", 0, x.item(0, 4));
        Check.due("the colour at this moment", 1, x.item(0, 0));
        Check.due("the rule", 0, x.item(0, 1));
        Check.due("the clip path before it", 1, x.item(1, 4));
        Check.due("the colour at this moment", 5, x.item(1, 0));
        Check.due("the rule", 1, x.item(1, 1));
        Check.due("what is clipped later does not matter", 9, x.item(0, 7));
        x = Check.ran("0 0 move fill 0 0 move fill", 0);
        Check.due("an item that covers nothing is one, too", 2, x.result(4));
    }

    private static void covering() {
        Sentences.held(PAINTING, "It covers a cell if the path and all its clip paths cover the centre of the cell.");
        // six clip paths, each of which takes a column or a row away
        PageInterpreter x = Check.ran("0 0 7 7 rect clip drop 1 0 9 9 rect clip drop 0 1 9 9 rect clip drop 0 0 6 9 "
                + "rect clip drop 0 0 9 6 rect clip drop 2 0 9 9 rect clip drop 0 0 9 9 rect fill", 0);
        picture(x, ".......", "..1111.", "..1111.", "..1111.", "..1111.", "..1111.", ".......");
        Check.due("clip paths", 6, x.item(0, 4));
        x = Check.ran("0 0 1 1 rect clip drop 1 1 1 1 rect clip drop 0 0 9 9 rect fill", 0);
        Check.due("clip paths that do not meet", 0, x.item(0, 7));
        x = Check.ran("0 0 1/2 9 rect clip drop 0 0 9 9 rect fill", 0);
        Check.due("a clip path up to the centres", 0, x.item(0, 7));
        x = Check.ran("1/2 0 1 9 rect clip drop 0 0 9 9 rect fill", 0);
        Check.due("a clip path from the centres on", 9, x.item(0, 7));
    }

    private static void itemRoom() {
        Sentences.held(PAINTING, "At most 30 items can be made.");
        String thirty = "9 repeat 3 repeat 0 0 move fill next next 3 repeat 0 0 move xfill next ";
        PageInterpreter x = Check.ran(thirty + "0 0 move drop 0 0 move clip drop", 0);
        Check.due("thirty", 30, x.result(4));
        Check.due("the last one", 1, x.item(29, 3));
        Check.due("none behind it", Check.NONE, x.item(30, 3));
        for (String end : "fill xfill".split(" ")) {
            x = Check.ran(thirty + "0 0 move " + end, 6);
            Check.due("thirty", 30, x.result(4));
            Check.due("the token of the error", 20, x.result(2));
        }
        x.run();
        Check.due("the next run makes its own", 30, x.result(4));
    }

    private static void colors() {
        Sentences.held(PAINTING, "The colour of a cell is that of the latest item that covers it, and 0 if there is "
                + "none.");
        PageInterpreter x = Check.ran("15 color 0 0 3 1 rect fill 2 color 1 0 3 1 rect fill 0 color 2 0 3 1 rect fill",
                0);
        picture(x, "f2...", ".....");
        Check.due("without a path", 0, Check.ran("", 0).cell(0, 0));
    }

    private static void clips() {
        Sentences.held(PAINTING, "If the path is marked as a clip path, it is added to the clip paths of the graphics "
                + "state when it ends (behind the painting, if it is painted); the list has at most 6 clip paths.");
        for (String end : "fill xfill drop".split(" ")) {
            PageInterpreter x = Check.ran("6 repeat 0 0 9 9 rect clip " + end + " next 0 0 move fill", 0);
            int items = x.result(4);
            Check.due("six", 6, x.item(items - 1, 4));
            x = Check.ran("7 repeat 0 0 9 9 rect clip " + end + " next", 6);
            Check.due("the seventh", 8, x.result(2));
            Check.due("operators", 21, x.result(3));
            Check.due("items", end.equals("drop") ? 0 : 6, x.result(4));
        }
        PageInterpreter x = Check.ran("3 repeat 0 0 9 9 rect clip fill next", 0);
        for (int item = 0; item < 3; item++) {
            Check.due("clip paths of item " + item, item, x.item(item, 4));
        }
        x = Check.ran("3 repeat save 6 repeat 0 0 9 9 rect xclip drop next restore next 0 0 move fill", 0);
        Check.due("restore takes them away", 0, x.item(0, 4));
        Check.due("a mark ends with its path", 1, Check.ran("0 0 move clip drop 0 0 move drop 0 0 move fill",
                0).item(0, 4));
    }

    private static void cell() {
        Sentences.held(P19, "Returns the colour of a cell by the latest run (with the size that the grid has now).");
        PageInterpreter x = Check.ran("9 color -99 dup 198 dup rect fill", 0);
        x.setSize(24, 4);
        Check.due("a cell that the grid had not", 9, x.cell(23, 3));
        Check.due("a cell that it has no more", Check.INVALID, x.cell(0, 4));
        x.undo();
        Check.due("a cell that it has again", 9, x.cell(0, 11));
        Check.due("a cell that it has no more", Check.INVALID, x.cell(23, 3));

        Sentences.held(P19, "- `x`: column - `y`: row Returns the colour;");
        x = Check.ran("15 color 11 0 1 1 rect fill 2 color 0 11 1 1 rect fill 7 color 11 dup 1 1 rect fill", 0);
        Check.due("the last of the first row", 15, x.cell(11, 0));
        Check.due("the first of the last row", 2, x.cell(0, 11));
        Check.due("the last of the last row", 7, x.cell(11, 11));
        Check.due("the first of the first row", 0, x.cell(0, 0));

        Sentences.held(P19, "INVALID_ARGUMENT if there is no such cell;");
        x = Check.ran("0 0 9 9 rect fill", 0);
        for (int[] w : NO_CELLS) {
            Check.due("cell(" + w[0] + ", " + w[1] + ")", Check.INVALID, x.cell(w[0], w[1]));
            Check.due("of a new object", Check.INVALID, new PageInterpreter().cell(w[0], w[1]));
        }

        Sentences.held(P19, "ILLEGAL_STATE if there was no run.");
        x = Check.page("");
        Check.due("cell(0, 0)", Check.ILLEGAL, x.cell(0, 0));
        Check.due("cell(11, 11)", Check.ILLEGAL, x.cell(11, 11));
        x.run();
        Check.due("cell(11, 11) behind it", 0, x.cell(11, 11));
    }

    private static void countColor() {
        Sentences.held(P20, "Counts the cells of a colour. - `color`: 0 to 15 Returns their number;");
        PageInterpreter x = Check.ran("0 color 0 0 9 1 rect fill 15 color 0 1 12 1 rect fill 0 2 1 1 rect fill", 0);
        Check.due("of the least one, painted or not", 131, x.countColor(0));
        Check.due("of the greatest one", 13, x.countColor(15));
        Check.due("of one that there is not", 0, x.countColor(1));
        x.setSize(4, 4);
        Check.due("in the grid as it is now", 5, x.countColor(15));
        x = Check.ran("15 color -99 dup 198 dup rect fill", 0);
        x.setSize(24, 24);
        Check.due("of all", 576, x.countColor(15));
        Check.due("of none", 0, x.countColor(0));

        Sentences.held(P20, "INVALID_ARGUMENT if color is out of range;");
        x = Check.ran("0 0 9 9 rect fill", 0);
        for (int w : new int[] {-1, 16, LEAST, MOST}) {
            Check.due("countColor(" + w + ")", Check.INVALID, x.countColor(w));
            Check.due("of a new object", Check.INVALID, new PageInterpreter().countColor(w));
        }

        Sentences.held(P20, "ILLEGAL_STATE if there was no run.");
        x = Check.page("");
        Check.due("countColor(0)", Check.ILLEGAL, x.countColor(0));
        Check.due("countColor(15)", Check.ILLEGAL, x.countColor(15));
        x.run();
        Check.due("countColor(0) behind it", 144, x.countColor(0));
    }

    private static void itemAt() {
        Sentences.held(P21, "Finds the latest item that covers a cell. - `x`: column - `y`: row Returns the number of "
                + "the item;");
        PageInterpreter x = Check.ran("9 repeat 3 repeat 0 0 12 1 rect fill next next 11 0 1 12 rect fill 0 color 0 0 "
                + "1 1 rect fill 0 11 1 1 rect fill", 0);
        Check.due("the 30th, and the last", 29, x.itemAt(0, 11));
        Check.due("one of colour 0", 28, x.itemAt(0, 0));
        Check.due("the latest of two", 27, x.itemAt(11, 0));
        Check.due("the latest of many", 26, x.itemAt(1, 0));
        Check.due("the last cell", 27, x.itemAt(11, 11));

        Sentences.held(P21, "INVALID_ARGUMENT if there is no such cell;");
        x = Check.ran("0 0 1 1 rect fill", 0);
        for (int[] w : NO_CELLS) {
            Check.due("itemAt(" + w[0] + ", " + w[1] + ")", Check.INVALID, x.itemAt(w[0], w[1]));
            Check.due("of a new object", Check.INVALID, new PageInterpreter().itemAt(w[0], w[1]));
        }
        x.setSize(4, 5);
        Check.due("the last one of a smaller grid", Check.NONE, x.itemAt(3, 4));
        Check.due("a column too many", Check.INVALID, x.itemAt(4, 4));
        Check.due("a row too many", Check.INVALID, x.itemAt(3, 5));

        Sentences.held(P21, "ILLEGAL_STATE if there was no run;");
        x = Check.page("");
        Check.due("itemAt(0, 0)", Check.ILLEGAL, x.itemAt(0, 0));
        Check.due("itemAt(11, 11)", Check.ILLEGAL, x.itemAt(11, 11));

        Sentences.held(P21, "NONE if no item covers it.");
        x = Check.ran("", 0);
        Check.due("where there are no items", Check.NONE, x.itemAt(0, 0));
        x = Check.ran("0 0 1 1 rect clip fill 0 0 9 9 rect fill", 0);
        Check.due("the item 0 is one", 1, x.itemAt(0, 0));
        Check.due("an item that is clipped there", Check.NONE, x.itemAt(1, 0));
        x = Check.ran("0 0 1 1 rect fill", 0);
        Check.due("the item 0 is one", 0, x.itemAt(0, 0));
        Check.due("the cell beside it", Check.NONE, x.itemAt(0, 1));
    }

    private static void itemProperties() {
        Sentences.held(P22, "Returns a property of an item. - `item`: number of the item, from 0");
        PageInterpreter x = Check.ran("9 repeat 3 repeat 0 0 move fill next next 2 repeat 0 0 move fill next 15 color "
                + "0 0 move fill", 0);
        Check.due("of the first", 1, x.item(0, 0));
        Check.due("of the 30th", 15, x.item(29, 0));

        Sentences.held(P22, "- `what`: 0 its colour, 1 its rule (0 nonzero, 1 odd), 2 the number of its parts, 3 the "
                + "number of its points, 4 the number of its clip paths, 5 the stream and 6 the number of the token by "
                + "which it was painted, 7 the number of cells that it covers, 8 the number of cells that would have "
                + "another colour if it was not there");
        x = Check.page("15 color 0 0 1 1 rect xfill $A draw");
        x.define(-1, 0, 2, 5);
        Check.stream(x, 5, "6 repeat 0 0 9 9 rect clip drop next 0 color 0 0 2 2 rect 2 0 1 1 rect 0 0 move 0 0 move "
                + "fill");
        Check.due("run", 0, x.run());
        int[] first = {15, 1, 1, 4, 0, -1, 7, 1, 0};
        int[] second = {0, 0, 4, 10, 6, 5, 28, 5, 1};
        for (int what = 0; what <= 8; what++) {
            Check.due("item(0, " + what + ")", first[what], x.item(0, what));
            Check.due("item(1, " + what + ")", second[what], x.item(1, what));
        }
        x = Check.ran("0 0 move fill", 0);
        int[] least = {1, 0, 1, 1, 0, -1, 3, 0, 0};
        for (int what = 0; what <= 8; what++) {
            Check.due("item(0, " + what + ") of a point", least[what], x.item(0, what));
        }
        x = Check.ran("0 0 1 1 rect ".repeat(6) + "fill " + "0 0 move ".repeat(8) + "fill", 0);
        Check.due("as many points as there can be", 24, x.item(0, 3));
        Check.due("their parts", 6, x.item(0, 2));
        Check.due("parts of a point each", 8, x.item(1, 2));
        differences();
    }

    /** Cells of one colour above each other: what an item below or above them changes. */
    private static void differences() {
        PageInterpreter x = Check.ran("2 color 0 0 3 3 rect fill 0 0 3 3 rect fill", 0);
        Check.due("two of one colour: the lower one", 0, x.item(0, 8));
        Check.due("the upper one", 0, x.item(1, 8));
        x = Check.ran("2 color 0 0 3 3 rect fill 3 color 0 0 3 2 rect fill", 0);
        Check.due("of two colours: the lower one", 3, x.item(0, 8));
        Check.due("the upper one", 6, x.item(1, 8));
        x = Check.ran("2 color 0 0 3 3 rect fill 3 color 0 0 3 3 rect fill 2 color 0 0 3 3 rect fill", 0);
        Check.due("what is next below the upper one counts", 9, x.item(2, 8));
        Check.due("the middle one is not seen", 0, x.item(1, 8));
        x = Check.ran("0 color 0 0 3 3 rect fill", 0);
        Check.due("the colour 0 on nothing", 0, x.item(0, 8));
        x.setSize(24, 24);
        Check.due("it covers", 9, x.item(0, 7));
        x = Check.ran("-99 dup 198 dup rect fill", 0);
        x.setSize(24, 24);
        Check.due("all cells", 576, x.item(0, 7));
        Check.due("all cells", 576, x.item(0, 8));
    }

    private static void itemErrors() {
        Sentences.held(P22, "Returns the property; INVALID_ARGUMENT if item is negative or what is out of range;");
        PageInterpreter x = Check.ran("0 0 move fill", 0);
        for (int[] w : new int[][] {{-1, 0}, {LEAST, 0}, {0, -1}, {0, 9}, {0, LEAST}, {0, MOST}, {1, 9}}) {
            Check.due("item(" + w[0] + ", " + w[1] + ")", Check.INVALID, x.item(w[0], w[1]));
            Check.due("of a new object", Check.INVALID, new PageInterpreter().item(w[0], w[1]));
        }

        Sentences.held(P22, "ILLEGAL_STATE if there was no run;");
        x = Check.page("0 0 move fill");
        for (int what = 0; what <= 8; what++) {
            Check.due("item(0, " + what + ")", Check.ILLEGAL, x.item(0, what));
        }
        Check.due("item(MOST, 0)", Check.ILLEGAL, x.item(MOST, 0));

        Sentences.held(P22, "NONE if there is no such item.");
        x = Check.ran("0 0 move fill", 0);
        for (int what = 0; what <= 8; what++) {
            Check.due("item(1, " + what + ")", Check.NONE, x.item(1, what));
            Check.due("item(MOST, " + what + ")", Check.NONE, x.item(MOST, what));
        }
        Check.stream(x, -1, "0 0 move drop");
        x.run();
        Check.due("that of the run before", Check.NONE, x.item(0, 0));
    }

    private static void point() {
        Sentences.held(P23, "Returns a device coordinate of a point of an item. - `item`: number of the item - "
                + "`point`: number of the point in the path, from 0 - `coordinate`: 0 x, 1 y");
        PageInterpreter x = Check.ran("-500 2 mul 500 2 mul move fill " + "1 2 3 4 rect ".repeat(6) + "fill", 0);
        OperatorBoundaries.points(x, 0, -16000, 16000);
        Check.due("the last point, x", 16, x.point(1, 23, 0));
        Check.due("the last point, y", 96, x.point(1, 23, 1));
        Check.due("the first point of the second item, x", 16, x.point(1, 0, 0));
        Check.due("the first point of the second item, y", 32, x.point(1, 0, 1));

        Sentences.held(P23, "Returns the device coordinate; INVALID_ARGUMENT if item or point is negative or "
                + "coordinate is out of range;");
        x = Check.ran("0 0 move fill 0 0 1 1 rect fill", 0);
        int[][] wrong = {{-1, 0, 0}, {LEAST, 0, 0}, {0, -1, 0}, {1, -1, 0}, {0, LEAST, 0}, {0, 0, -1}, {0, 0, 2},
            {0, 0, LEAST}, {0, 0, MOST}, {9, 99, 2}};
        for (int[] w : wrong) {
            Check.due("point(" + w[0] + ", " + w[1] + ", " + w[2] + ")", Check.INVALID, x.point(w[0], w[1], w[2]));
            Check.due("of a new object", Check.INVALID, new PageInterpreter().point(w[0], w[1], w[2]));
        }

        Sentences.held(P23, "ILLEGAL_STATE if there was no run;");
        x = Check.page("5 6 move fill 7 8 move fill");
        Check.due("point(0, 0, 0)", Check.ILLEGAL, x.point(0, 0, 0));
        Check.due("point(MOST, MOST, 1)", Check.ILLEGAL, x.point(MOST, MOST, 1));

        Sentences.held(P23, "NONE if there is no such item or point.");
        x = Check.ran("5 6 move fill 7 8 move fill", 0);
        Check.due("point(0, 0, 1)", 96, x.point(0, 0, 1));
        Check.due("point(0, 1, 0), though the next item has one", Check.NONE, x.point(0, 1, 0));
        Check.due("point(1, 1, 0)", Check.NONE, x.point(1, 1, 0));
        Check.due("point(2, 0, 0)", Check.NONE, x.point(2, 0, 0));
        Check.due("point(0, MOST, 0)", Check.NONE, x.point(0, MOST, 0));
        Check.due("point(1, MOST, 0)", Check.NONE, x.point(1, MOST, 0));
        Check.due("point(MOST, 0, 1)", Check.NONE, x.point(MOST, 0, 1));
        Check.due("point(MOST, MOST, 1)", Check.NONE, x.point(MOST, MOST, 1));
        x = Check.ran("0 0 1 1 rect ".repeat(6) + "fill", 0);
        Check.due("point(0, 23, 1)", 16, x.point(0, 23, 1));
        Check.due("point(0, 24, 1)", Check.NONE, x.point(0, 24, 1));
    }

    private static void bound() {
        Sentences.held(P24, "Returns a side of the bounding box of the points of an item, in device coordinates. - "
                + "`item`: number of the item - `side`: 0 the smallest x, 1 the smallest y, 2 the greatest x, 3 the "
                + "greatest y");
        PageInterpreter x = Check.ran("2 -3 move fill 500 2 mul dup move -500 2 mul dup line fill 1 2 3 4 rect -5 0 "
                + "move 0 9 line fill", 0);
        int[][] due = {{32, -48, 32, -48}, {-16000, -16000, 16000, 16000}, {-80, 0, 64, 144}};
        for (int item = 0; item < due.length; item++) {
            for (int side = 0; side < 4; side++) {
                Check.due("bound(" + item + ", " + side + ")", due[item][side], x.bound(item, side));
            }
        }
        x = Check.ran("0 0 1 1 rect ".repeat(5) + "0 0 move 0 0 line 0 0 line -9 9 line fill", 0);
        Check.due("the last point counts, x", -144, x.bound(0, 0));
        Check.due("the last point counts, y", 144, x.bound(0, 3));
        x = Check.ran("0 0 1 1 rect clip drop -2 -2 9 9 rect fill", 0);
        Check.due("what is clipped counts, too", -32, x.bound(0, 0));

        Sentences.held(P24, "Returns the device coordinate; INVALID_ARGUMENT if item is negative or side is out of "
                + "range;");
        x = Check.ran("0 0 move fill", 0);
        for (int[] w : new int[][] {{-1, 0}, {LEAST, 0}, {0, -1}, {0, 4}, {0, LEAST}, {0, MOST}, {99, 4}}) {
            Check.due("bound(" + w[0] + ", " + w[1] + ")", Check.INVALID, x.bound(w[0], w[1]));
            Check.due("of a new object", Check.INVALID, new PageInterpreter().bound(w[0], w[1]));
        }

        Sentences.held(P24, "ILLEGAL_STATE if there was no run;");
        x = Check.page("1 1 move fill");
        Check.due("bound(0, 0)", Check.ILLEGAL, x.bound(0, 0));
        Check.due("bound(MOST, 3)", Check.ILLEGAL, x.bound(MOST, 3));

        Sentences.held(P24, "NONE if there is no such item.");
        x = Check.ran("1 1 move fill", 0);
        Check.due("bound(0, 3)", 16, x.bound(0, 3));
        Check.due("bound(1, 0)", Check.NONE, x.bound(1, 0));
        Check.due("bound(MOST, 3)", Check.NONE, x.bound(MOST, 3));
        Check.due("bound(0, 0) without items", Check.NONE, Check.ran("1 1 move drop", 0).bound(0, 0));
    }

    private static void doubleArea() {
        Sentences.held(P25, "Returns twice the area of an item as its edges tell it: the absolute value of the sum "
                + "over all edges of its polygons of X1 * Y2 - X2 * Y1, in device coordinates. - `item`: number of the "
                + "item Returns the absolute value;");
        Check.due("a point", 0, Check.ran("5 6 move fill", 0).doubleArea(0));
        Check.due("a line", 0, Check.ran("5 6 move -7 8 line fill", 0).doubleArea(0));
        Check.due("a cell", 512, Check.ran("0 0 1 1 rect fill", 0).doubleArea(0));
        Check.due("a cell the other way round", 512, Check.ran("1 0 -1 1 rect fill", 0).doubleArea(0));
        Check.due("a half cell", 256, Check.ran("3 3 move 4 3 line 3 4 line fill", 0).doubleArea(0));
        Check.due("parts against each other", 0, Check.ran("0 0 1 1 rect 1 0 -1 1 rect fill", 0).doubleArea(0));
        Check.due("parts one upon the other", 1024, Check.ran("0 0 1 1 rect 0 0 1 1 rect fill", 0).doubleArea(0));
        Check.due("a part that is open, and one behind it", 768,
                Check.ran("3 3 move 4 3 line 3 4 line 0 0 1 1 rect fill", 0).doubleArea(0));
        // the sum is far beyond the numbers of 32 bits: 2 * 32000 * 32000, six times
        String great = "100 0 0 100 0 0 concat";
        Check.due("the greatest square", 2048000000L, Check.ran(great + " -10 dup 20 dup rect fill", 0).doubleArea(0));
        Check.due("six of them", 12288000000L, Check.ran(great + " -10 dup 20 dup rect".repeat(6) + " fill",
                0).doubleArea(0));
        Check.due("six the other way round", 12288000000L,
                Check.ran(great + " 10 -10 -20 20 rect".repeat(6) + " fill", 0).doubleArea(0));

        PageInterpreter again = Check.ran("0 0 9 9 rect fill", 0);
        Check.stream(again, -1, "5 6 move fill");
        again.run();
        Check.due("a point where the run before had a square", 0, again.doubleArea(0));

        Sentences.held(P25, "INVALID_ARGUMENT if item is negative;");
        for (int w : new int[] {-1, LEAST}) {
            Check.due("doubleArea(" + w + ")", Check.INVALID, Check.ran("0 0 1 1 rect fill", 0).doubleArea(w));
            Check.due("of a new object", Check.INVALID, new PageInterpreter().doubleArea(w));
        }

        Sentences.held(P25, "ILLEGAL_STATE if there was no run;");
        PageInterpreter x = Check.page("0 0 1 1 rect fill");
        Check.due("doubleArea(0)", Check.ILLEGAL, x.doubleArea(0));
        Check.due("doubleArea(MOST)", Check.ILLEGAL, x.doubleArea(MOST));

        Sentences.held(P25, "NONE if there is no such item.");
        x = Check.ran("0 0 1 1 rect fill", 0);
        Check.due("doubleArea(0)", 512, x.doubleArea(0));
        Check.due("doubleArea(1)", Check.NONE, x.doubleArea(1));
        Check.due("doubleArea(MOST)", Check.NONE, x.doubleArea(MOST));
    }
}
