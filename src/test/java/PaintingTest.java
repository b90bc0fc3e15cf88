/** Promises 19 to 25: cells and items. */
public final class PaintingTest {
    private static final int LEAST = Integer.MIN_VALUE;
    private static final int MOST = Integer.MAX_VALUE;

    public static void main(String[] args) {
        arguments();
        noSuchItem();
        cells();
        sizes();
        colorZero();
        rules();
        directions();
        edges();
        sixteenths();
        triangles();
        thinPaths();
        openParts();
        clipping();
        clipRules();
        boxes();
        hiddenItems();
        properties();
        points();
        rounding();
        bounds();
        areas();
        Check.end("PaintingTest");
    }

    private static void arguments() {
        PageInterpreter x = new PageInterpreter();
        for (int round = 0; round < 2; round++) {
            for (int[] w : new int[][] {{-1, 0}, {0, -1}, {12, 0}, {0, 12}, {LEAST, 0}, {0, MOST}}) {
                Check.due("cell", Check.INVALID, x.cell(w[0], w[1]));
                Check.due("itemAt", Check.INVALID, x.itemAt(w[0], w[1]));
            }
            for (int w : new int[] {-1, 16, LEAST, MOST}) {
                Check.due("countColor", Check.INVALID, x.countColor(w));
            }
            for (int[] w : new int[][] {{-1, 0}, {0, -1}, {0, 9}, {LEAST, 0}, {99, MOST}}) {
                Check.due("item", Check.INVALID, x.item(w[0], w[1]));
            }
            for (int[] w : new int[][] {{-1, 0, 0}, {0, -1, 0}, {0, 0, -1}, {0, 0, 2}, {LEAST, 0, 0}, {9, 9, MOST}}) {
                Check.due("point", Check.INVALID, x.point(w[0], w[1], w[2]));
            }
            for (int[] w : new int[][] {{-1, 0}, {0, -1}, {0, 4}, {LEAST, 0}, {9, MOST}}) {
                Check.due("bound", Check.INVALID, x.bound(w[0], w[1]));
            }
            for (int w : new int[] {-1, LEAST}) {
                Check.due("doubleArea", Check.INVALID, x.doubleArea(w));
            }
            x = Check.ran("0 0 1 1 rect fill", 0);
        }
    }

    private static void noSuchItem() {
        PageInterpreter x = new PageInterpreter();
        for (int[] round : new int[][] {{0, Check.ILLEGAL}, {MOST, Check.ILLEGAL}, {1, Check.NONE}, {MOST, Check.NONE}}) {
            if (round[1] == Check.NONE) {
                x = Check.ran("0 0 1 1 rect fill", 0);
            }
            for (int what = 0; what <= 8; what++) {
                Check.due("item", round[1], x.item(round[0], what));
            }
            Check.due("point", round[1], x.point(round[0], 0, 1));
            Check.due("bound", round[1], x.bound(round[0], 3));
            Check.due("doubleArea", round[1], x.doubleArea(round[0]));
        }
        Check.due("point(0, 3, 0)", 16 * 0, x.point(0, 3, 0));
        Check.due("point(0, 4, 0)", Check.NONE, x.point(0, 4, 0));
        Check.due("point(0, MOST, 0)", Check.NONE, x.point(0, MOST, 0));
    }

    /** Compares the cells of the uppermost rows; a dot is the colour 0, a letter 10 and more. */
    private static void picture(PageInterpreter x, String... rows) {
        for (int y = 0; y < rows.length; y++) {
            for (int column = 0; column < rows[y].length(); column++) {
                char c = rows[y].charAt(column);
                int color = c == '.' ? 0 : Character.digit(c, 16);
                Check.due("cell(" + column + ", " + y + ") of " + rows[y], color, x.cell(column, y));
            }
        }
    }

    private static void cells() {
        PageInterpreter x = Check.ran("2 color 1 1 4 2 rect fill 15 color 3 0 1 4 rect fill", 0);
        picture(x, "...f........", ".22f2.......", ".22f2.......", "...f........", "............");
        Check.due("countColor(2)", 6, x.countColor(2));
        Check.due("countColor(15)", 4, x.countColor(15));
        Check.due("countColor(0)", 134, x.countColor(0));
        Check.due("countColor(1)", 0, x.countColor(1));
        Check.due("itemAt", 0, x.itemAt(1, 1));
        Check.due("itemAt", 1, x.itemAt(3, 1));
        Check.due("itemAt", Check.NONE, x.itemAt(0, 0));
    }

    private static void sizes() {
        PageInterpreter x = Check.ran("-9 -9 99 99 rect fill", 0);
        Check.due("item(0, 7)", 144, x.item(0, 7));
        x.setSize(24, 23);
        Check.due("cell(23, 22)", 1, x.cell(23, 22));
        Check.due("cell(23, 23)", Check.INVALID, x.cell(23, 23));
        Check.due("countColor(1)", 552, x.countColor(1));
        Check.due("item(0, 7)", 552, x.item(0, 7));
        Check.due("item(0, 8)", 552, x.item(0, 8));
        x.setSize(4, 5);
        Check.due("itemAt(3, 4)", 0, x.itemAt(3, 4));
        Check.due("itemAt(4, 4)", Check.INVALID, x.itemAt(4, 4));
        Check.due("countColor(1)", 20, x.countColor(1));
        Check.due("item(0, 7)", 20, x.item(0, 7));
        x.undo();
        Check.due("item(0, 8)", 552, x.item(0, 8));
    }

    private static void colorZero() {
        PageInterpreter x = Check.ran("0 0 3 1 rect fill 0 color 1 0 4 1 rect fill", 0);
        picture(x, "1...........");
        Check.due("itemAt", 1, x.itemAt(4, 0));
        Check.due("countColor(0)", 143, x.countColor(0));
        Check.due("it covers", 4, x.item(1, 7));
        Check.due("it would be missed in", 2, x.item(1, 8));
        Check.due("the other one in", 1, x.item(0, 8));
    }

    private static void rules() {
        String twice = "0 0 4 4 rect 1 1 2 2 rect ";
        picture(Check.ran(twice + "fill", 0), "1111.", "1111.", "1111.", "1111.", ".....");
        picture(Check.ran(twice + "xfill", 0), "1111.", "1..1.", "1..1.", "1111.", ".....");
        String against = "0 0 4 4 rect 1 3 2 -2 rect ";
        picture(Check.ran(against + "fill", 0), "1111.", "1..1.", "1..1.", "1111.", ".....");
        picture(Check.ran(against + "xfill", 0), "1111.", "1..1.", "1..1.", "1111.", ".....");
        String thrice = twice + "0 0 2 2 rect ";
        picture(Check.ran(thrice + "fill", 0), "1111.", "1111.", "1111.", "1111.", ".....");
        picture(Check.ran(thrice + "xfill", 0), "..11.", ".1.1.", "1..1.", "1111.", ".....");
    }

    private static void directions() {
        for (String r : new String[] {"1 1 2 3 rect ", "3 1 -2 3 rect ", "3 4 -2 -3 rect ", "1 4 2 -3 rect "}) {
            for (String f : new String[] {"fill", "xfill"}) {
                PageInterpreter x = Check.ran(r + f, 0);
                picture(x, ".....", ".11..", ".11..", ".11..", ".....");
                Check.due("cells", 6, x.item(0, 7));
            }
        }
    }

    private static void edges() {
        // a centre on the left or the upper edge is covered, one on the right or the lower edge is not
        picture(Check.ran("1/2 1/2 2 2 rect fill", 0), "11..", "11..", "....");
        picture(Check.ran("1/2 0 2 2 rect fill", 0), "11..", "11..", "....");
        picture(Check.ran("0 1/2 2 2 rect fill", 0), "11..", "11..", "....");
        picture(Check.ran("5/2 1/2 -2 2 rect fill", 0), "11..", "11..", "....");
        picture(Check.ran("5/2 5/2 -2 -2 rect fill", 0), "11..", "11..", "....");
        picture(Check.ran("1/2 5/2 2 -2 rect fill", 0), "11..", "11..", "....");
        picture(Check.ran("1/3 1/3 1 1 rect fill", 0), "1...", "....");
        picture(Check.ran("2/3 2/3 1 1 rect fill", 0), "....", ".1..", "....");
    }

    /** Paths in sixteenths around the centre (8, 8) of the first cell. */
    private static void sixteenths() {
        String scale = "1/4 0 0 1/4 0 0 concat 1/4 0 0 1/4 0 0 concat ";
        String[] covering = {"0 0 9 9 rect", "8 8 1 1 rect", "8 0 1 9 rect", "0 8 9 1 rect", "9 9 -1 -1 rect",
            "0 7 move 8 7 line 9 10 line 0 10 line", "0 10 move 9 10 line 8 7 line 0 7 line",
            "8 7 move 7 10 line 16 10 line 16 7 line", "7 7 move 16 7 line 16 10 line 10 10 line 8 8 line"};
        String[] missing = {"0 0 8 9 rect", "0 0 9 8 rect", "9 0 9 9 rect", "0 9 9 9 rect", "8 8 -1 -1 rect",
            "0 7 move 8 7 line 7 10 line 0 10 line", "0 10 move 7 10 line 8 7 line 0 7 line",
            "0 7 move 8 7 line 8 10 line 0 10 line", "8 7 move 9 10 line 16 10 line 16 7 line"};
        for (String end : new String[] {" fill", " xfill"}) {
            for (String path : covering) {
                Check.due("cell of " + path, 1, Check.ran(scale + path + end, 0).cell(0, 0));
            }
            for (String path : missing) {
                Check.due("cell of " + path, 0, Check.ran(scale + path + end, 0).cell(0, 0));
            }
        }
        PageInterpreter x = Check.ran("1 2 2 3 rect fill", 0);
        Check.due("the cells are 16 wide and high", 6, x.countColor(1));
        Check.due("cell(2, 4)", 1, x.cell(2, 4));
    }

    private static void triangles() {
        PageInterpreter x = Check.ran("0 0 move 8 0 line 0 8 line fill", 0);
        picture(x, "1111111.", "111111..", "11111...", "1111....", "111.....", "11......", "1.......", "........");
        Check.due("area", 128 * 128, x.doubleArea(0));
        // the same one with its slope shifted by a sixteenth
        x = Check.ran("1/8 2 div 0 move 8 0 line 0 8 line fill", 0);
        picture(x, "1111111.");
        x = Check.ran("0 0 move 9 0 line 0 9 line fill", 0);
        picture(x, "11111111.", "1111111..");
        // a bow of two triangles, the centres on its slopes being on the left edge or on the right one
        x = Check.ran("0 0 move 4 4 line 4 0 line 0 4 line fill", 0);
        picture(x, "...1.", "1.11.", "1.11.", "...1.", ".....");
    }

    private static void thinPaths() {
        for (String p : new String[] {"1 1 move ", "0 0 move 9 9 line ", "0 0 0 5 rect ", "0 0 5 0 rect ", "3 3 move close "}) {
            PageInterpreter x = Check.ran(p + "fill " + p + "xfill", 0);
            Check.due("cells of " + p, 144, x.countColor(0));
            Check.due("cells of " + p, 0, x.item(0, 7));
            Check.due("cells of " + p, 0, x.item(1, 7));
            Check.due("area of " + p, 0, x.doubleArea(0));
        }
    }

    private static void openParts() {
        // a part is closed by painting it, whether it was ended or not; each part by itself
        picture(Check.ran("0 0 move 3 0 line 3 3 line 0 3 line fill", 0), "111.", "111.", "111.", "....");
        picture(Check.ran("0 0 move 2 0 line 2 2 line 0 2 line 3 0 move 5 0 line 5 2 line 3 2 line fill", 0),
                "11.11.", "11.11.", "......");
        picture(Check.ran("0 0 move 2 0 line 2 2 line 0 2 line 3 0 2 2 rect fill", 0), "11.11.", "11.11.", "......");
    }

    private static void clipping() {
        PageInterpreter x = Check.ran("1 1 3 3 rect clip drop 2 color 2 0 4 3 rect clip fill 3 color 0 0 9 9 rect fill", 0);
        picture(x, "......", "..33..", "..33..", "......");
        Check.due("clips", 1, x.item(0, 4));
        Check.due("clips", 2, x.item(1, 4));
        Check.due("cells", 4, x.item(0, 7));
        Check.due("cells", 4, x.item(1, 7));
        // what is painted and marked is not clipped by itself, but what comes is
        x = Check.ran("0 0 2 2 rect xclip fill 1 1 2 2 rect fill", 0);
        Check.due("cells", 4, x.item(0, 7));
        Check.due("cells", 1, x.item(1, 7));
        // a clip path keeps the matrix of its points
        x = Check.ran("0 0 2 2 rect clip drop 1 0 0 1 1 1 concat 0 0 2 2 rect fill", 0);
        Check.due("cells", 1, x.item(0, 7));
        Check.due("itemAt", 0, x.itemAt(1, 1));
        // saves and forms keep the clip paths that there are
        x = Check.ran("0 0 9 9 rect fill 1 1 2 1 rect clip drop save 2 0 5 5 rect clip drop 3 color 0 0 9 9 rect fill restore "
                + "4 color 0 0 9 9 rect fill", 0);
        Check.due("cells", 1, x.item(1, 7));
        Check.due("cells", 2, x.item(2, 7));
        Check.due("itemAt", 2, x.itemAt(2, 1));
        Check.due("its colour is seen", 4, x.cell(1, 1));
        // a clip path without cells clips all
        x = Check.ran("0 0 move clip drop 0 0 9 9 rect fill", 0);
        Check.due("cells", 0, x.item(0, 7));
        // points behind the mark belong to the clip path too
        x = Check.ran("0 0 1 1 rect clip 2 0 1 1 rect drop 0 0 9 9 rect fill", 0);
        picture(x, "1.1...", "......");
        // without a mark there is none
        x = Check.ran("0 0 1 1 rect drop 0 0 1 1 rect fill 0 0 9 9 rect fill", 0);
        Check.due("clips", 0, x.item(1, 4));
        // an open mark ends with its path
        x = Check.ran("0 0 1 1 rect clip drop 0 0 1 1 rect drop 0 0 9 9 rect fill", 0);
        Check.due("clips", 1, x.item(0, 4));
    }

    private static void clipRules() {
        String twice = "0 0 4 4 rect 1 1 2 2 rect ";
        String all = " 0 0 9 9 rect ";
        for (String end : new String[] {"drop", "fill", "xfill"}) {
            int item = end.equals("drop") ? 0 : 1;
            for (String paint : new String[] {"fill", "xfill"}) {
                PageInterpreter x = Check.ran(twice + "clip " + end + all + paint, 0);
                Check.due("by the nonzero rule", 16, x.item(item, 7));
                x = Check.ran(twice + "xclip " + end + all + paint, 0);
                Check.due("by the odd rule", 12, x.item(item, 7));
            }
        }
        PageInterpreter x = Check.ran(twice + "xclip fill", 0);
        Check.due("the paint has its own rule", 16, x.item(0, 7));
        Check.due("the paint has its own rule", 0, x.item(0, 1));
    }

    private static void boxes() {
        PageInterpreter x = Check.page("$A draw 2 color 0 0 1 9 rect fill");
        x.define(-1, 0, 2, 0);
        Check.stream(x, 0, "-9 -9 50 50 rect fill");
        x.setBox(0, 1, 2, 3, 5);
        Check.due("run", 0, x.run());
        picture(x, "2.....", "2.....", "211...", "211...", "211...", "2.....");
        Check.due("clips of the form", 1, x.item(0, 4));
        Check.due("clips of the page", 0, x.item(1, 4));
        // the box goes by the matrix of the page, also where that turns it
        Check.stream(x, -1, "0 1 1 0 0 0 concat $A draw");
        Check.due("run", 0, x.run());
        picture(x, "......", "..111.", "..111.", "......");
        Check.stream(x, -1, "1 0 0 -1 0 6 concat $A draw");
        Check.due("run", 0, x.run());
        picture(x, "......", ".11...", ".11...", ".11...", "......");
        // the box is not a part of the form's path
        Check.due("points", 4, x.item(0, 3));
        // boxes of nested forms come together
        Check.stream(x, 0, "$B draw");
        Check.stream(x, 1, "-9 -9 50 50 rect fill");
        x.define(0, 1, 2, 1);
        x.setBox(1, 2, 0, 9, 3);
        Check.stream(x, -1, "$A draw");
        Check.due("run", 0, x.run());
        picture(x, "......", "......", "..1...", "......");
        Check.due("clips", 2, x.item(0, 4));
        x.removeBox(0);
        Check.due("run", 0, x.run());
        Check.due("cells", 21, x.item(0, 7));
        Check.due("clips", 1, x.item(0, 4));
    }

    private static void hiddenItems() {
        PageInterpreter x = Check.ran("2 color 0 0 3 3 rect fill 1 1 3 3 rect fill 5 color 2 2 3 3 rect fill", 0);
        picture(x, "222...", "2222..", "22555.", ".2555.", "..555.", "......");
        int[] covered = {9, 9, 9};
        // the first and the second have the same colour: where both are, neither is missed
        int[] missed = {5, 2, 9};
        for (int i = 0; i < 3; i++) {
            Check.due("item(" + i + ", 7)", covered[i], x.item(i, 7));
            Check.due("item(" + i + ", 8)", missed[i], x.item(i, 8));
        }
        Check.due("itemAt", 1, x.itemAt(1, 1));
        x = Check.ran("2 color 0 0 3 3 rect fill 3 color 0 0 3 3 rect fill", 0);
        Check.due("a hidden one is not missed", 0, x.item(0, 8));
        Check.due("the one above is", 9, x.item(1, 8));
        x = Check.ran("0 color 0 0 3 3 rect fill", 0);
        Check.due("colour 0 on nothing is not missed", 0, x.item(0, 8));
        Check.due("but covers", 9, x.item(0, 7));
    }

    private static void properties() {
        PageInterpreter x = Check.page("7 color 0 0 move 2 0 line 2 2 line close 3 3 1 1 rect 5 5 move xfill 3 repeat $A draw next");
        x.define(-1, 0, 2, 5);
        Check.stream(x, 5, "0 0 1 1 rect clip fill 1 pop 0 0 move fill");
        Check.due("run", 0, x.run());
        int[][] due = {{7, 1, 3, 8, 0, -1, 20}, {7, 0, 1, 4, 0, 5, 6}, {7, 0, 1, 1, 1, 5, 12}, {7, 0, 1, 4, 0, 5, 6}};
        for (int i = 0; i < due.length; i++) {
            for (int what = 0; what < due[i].length; what++) {
                Check.due("item(" + i + ", " + what + ")", due[i][what], x.item(i, what));
            }
        }
        Check.due("items", 7, x.result(4));
        Check.due("item(6, 6)", 12, x.item(6, 6));
    }

    private static void points() {
        PageInterpreter x = Check.ran("5 6 move 7 8 line close 1 2 3 4 rect 9 9 move fill", 0);
        int[][] due = {{80, 96}, {112, 128}, {16, 32}, {64, 32}, {64, 96}, {16, 96}, {144, 144}};
        for (int i = 0; i < due.length; i++) {
            Check.due("point(0, " + i + ", 0)", due[i][0], x.point(0, i, 0));
            Check.due("point(0, " + i + ", 1)", due[i][1], x.point(0, i, 1));
        }
        Check.due("point(0, 7, 0)", Check.NONE, x.point(0, 7, 0));
        // (x, y) goes to (2 x + 5 y + 11, 3 x + 7 y + 13)
        x = Check.ran("2 3 5 7 11 13 concat 1 2 move 1 1 -1 -2 rect fill", 0);
        int[][] turned = {{23, 30}, {18, 23}, {16, 20}, {6, 6}, {8, 9}};
        for (int i = 0; i < turned.length; i++) {
            Check.due("point(0, " + i + ", 0)", 16 * turned[i][0], x.point(0, i, 0));
            Check.due("point(0, " + i + ", 1)", 16 * turned[i][1], x.point(0, i, 1));
        }
        // no operand of a path changes the points before it
        x = Check.ran("0 0 move 3 4 add 2 3 mul line fill", 0);
        Check.due("point(0, 1, 0)", 112, x.point(0, 1, 0));
        Check.due("point(0, 1, 1)", 96, x.point(0, 1, 1));
    }

    private static void rounding() {
        // a 32nd is half a sixteenth
        String[] numbers = {"1 32 div", "-1 32 div", "3 32 div", "-3 32 div", "1 33 div", "1 31 div", "-1 31 div",
            "-1 33 div", "1/3", "-1/3", "1/7", "-1/7", "5/9", "-5/9"};
        int[] due = {1, 0, 2, -1, 0, 1, -1, 0, 5, -5, 2, -2, 9, -9};
        for (int i = 0; i < numbers.length; i++) {
            PageInterpreter x = Check.ran(numbers[i] + " 0 move 0 " + numbers[i] + " line fill", 0);
            Check.due("x of " + numbers[i], due[i], x.point(0, 0, 0));
            Check.due("y of " + numbers[i], due[i], x.point(0, 1, 1));
        }
    }

    private static void bounds() {
        PageInterpreter x = Check.ran("1 2 move 3 -4 line -5 6 line close 0 7 1 1 rect fill 2 -3 move fill", 0);
        int[] due = {-80, -64, 48, 128};
        int[] single = {32, -48, 32, -48};
        for (int side = 0; side < 4; side++) {
            Check.due("bound(0, " + side + ")", due[side], x.bound(0, side));
            Check.due("bound(1, " + side + ")", single[side], x.bound(1, side));
        }
        // the bounds are those of the points, whether clipped or not
        x = Check.ran("0 0 1 1 rect clip drop -3 -3 8 9 rect fill", 0);
        Check.due("bound(0, 0)", -48, x.bound(0, 0));
        Check.due("bound(0, 3)", 96, x.bound(0, 3));
    }

    private static void areas() {
        Check.due("a square", 2 * 256, Check.ran("3 4 1 1 rect fill", 0).doubleArea(0));
        Check.due("the other way round", 2 * 256, Check.ran("3 4 1 -1 rect fill", 0).doubleArea(0));
        Check.due("two parts", 4 * 256, Check.ran("0 0 1 1 rect 0 0 1 1 rect fill", 0).doubleArea(0));
        Check.due("two against each other", 0, Check.ran("0 0 1 1 rect 5 1 1 -1 rect fill", 0).doubleArea(0));
        Check.due("a part that is open", 256, Check.ran("0 0 move 1 0 line 0 1 line 5 5 move fill", 0).doubleArea(0));
        Check.due("a great one", 2L * 32000 * 32000,
                Check.ran("100 0 0 100 0 0 concat -10 -10 20 dup rect fill", 0).doubleArea(0));
        PageInterpreter x = Check.ran("0 0 move line fill", 2);
        Check.due("a run that stops in a path paints nothing", 0, x.result(4));
        Check.due("doubleArea", Check.NONE, x.doubleArea(0));
        Check.due("six times that", 12L * 32000 * 32000, six().doubleArea(0));
    }

    private static PageInterpreter six() {
        StringBuilder text = new StringBuilder("100 0 0 100 0 0 concat");
        for (int i = 0; i < 6; i++) {
            text.append(" -10 dup 20 dup rect");
        }
        return Check.ran(text.append(" fill").toString(), 0);
    }
}
