/** The boundary cases of texts: tokens and structure. */
final class TextBoundaries {
    private static final String TOKENS = "Tokens";
    private static final String STRUCTURE = "Structure";

    private static final String OPERATORS = "save restore concat move line close rect clip xclip fill xfill drop color "
            + "draw repeat next dup pop exch add sub mul div";

    private TextBoundaries() { }

    static void all() {
        buffer();
        numbers();
        digits();
        denominators();
        names();
        words();
        otherCharacters();
        spaces();
        numbering();
        order();
        belonging();
        enclosing();
        depths();
        openPaths();
        closedPaths();
        parts();
        marks();
        ends();
        errorPositions();
    }

    /** The text is a stream of a number of tokens. */
    private static void right(String text, int tokens) {
        answer(text, tokens);
    }

    /** The text is no stream; its error is where the bar stands (which does not belong to it). */
    private static void wrong(String text) {
        int at = text.indexOf('|');
        answer(text.substring(0, at) + text.substring(at + 1), -10 - at);
    }

    private static void answer(String text, int want) {
        PageInterpreter x = new PageInterpreter();
        Check.write(x, text);
        Check.due("setStream of '" + text + "'", want, x.setStream(0));
    }

    /** The number is one, and has this value. */
    private static void number(String text, int numerator, int denominator) {
        PageInterpreter x = Check.ran(text, 0);
        Check.due("tokens of " + text, 1, x.tokenCount(-1));
        Check.operand(x, 0, numerator, denominator);
    }

    private static void buffer() {
        Sentences.held(TOKENS, "A stream is read from a buffer of at most 160 characters. Tokens:");
        right("", 0);
        right("1".concat(" ".repeat(158)).concat("1"), 2);
        right(" ".repeat(157) + "999", 1);
        wrong(" ".repeat(156) + "|1000");
        right(" ".repeat(158) + "$A", 1);
        wrong(" ".repeat(159) + "|$");
        right(" ".repeat(154) + "1 draw", 2);
        PageInterpreter x = new PageInterpreter();
        Check.write(x, " ".repeat(157) + "fil");
        Check.due("append to 160 characters", Check.FULL, x.append('l'));
        Check.due("a word that is not complete", -10 - 157, x.setStream(0));
    }

    private static void numbers() {
        Sentences.held(TOKENS, "- a maximal run of the characters 0 to 9, \"-\" and \"/\":");
        // the neighbours of these characters, 44 and 46, 47 and 58, are tokens by themselves
        for (String other : new String[] {",", ".", ":", "+", "*"}) {
            wrong("1|" + other);
            wrong("1|" + other + "1");
        }
        wrong("|1-2");
        wrong("|1-");
        wrong("|1/2-1");
        wrong("|1//2");
        right("0$A9", 3);
        right("1pop9", 3);
        right("1 -2 3/4", 3);
    }

    private static void digits() {
        Sentences.held(TOKENS, "it is a number if it consists of an optional \"-\",");
        number("1", 1, 1);
        number("-1", -1, 1);
        number("-0", 0, 1);
        wrong("|--1");
        wrong("|-");
        wrong("|-/2");
        wrong("|1/-2");
        wrong("|+1");

        Sentences.held(TOKENS, "1 to 3 digits,");
        number("9", 9, 1);
        number("999", 999, 1);
        number("-999", -999, 1);
        wrong("|1000");
        wrong("|-1000");
        wrong("|9999999999999");
        wrong("|4294967297");
        wrong("|1000/2");
        wrong("|/2");
        wrong("|/");

        Sentences.held(TOKENS, "the first of which is not 0 unless it is the only one,");
        number("0", 0, 1);
        number("100", 100, 1);
        number("909", 909, 1);
        wrong("|00");
        wrong("|01");
        wrong("|-01");
        wrong("|000");
        wrong("|012");
        wrong("|00/2");
        number("0/2", 0, 1);
    }

    private static void denominators() {
        Sentences.held(TOKENS, "and optionally a \"/\" and one digit from 2 to 9 (so -5/2 is a number);");
        number("-5/2", -5, 2);
        number("1/9", 1, 9);
        number("999/2", 999, 2);
        wrong("|1/1");
        wrong("|1/0");
        wrong("|1/");
        wrong("|1/10");
        wrong("|1/22");
        wrong("|1/02");
        wrong("|1/2/2");
        wrong("|1/2/");
    }

    private static void names() {
        Sentences.held(TOKENS, "- \"$\" and the character behind it: this is a name if that character is A to H");
        for (int n = 0; n < 8; n++) {
            PageInterpreter x = Check.ran("$" + (char) ('A' + n), 0);
            Check.operand(x, 0, n, 0);
        }
        right("$A$H", 2);
        right("$A1", 2);
        right("$Apop", 2);
        for (String no : new String[] {"$@", "$I", "$a", "$h", "$`", "$i", "$0", "$$", "$ ", "$ A", "$Z", "$\u00c1"}) {
            wrong("1|" + no);
        }
        // the character behind the sign belongs to it, so that the next token is the one behind that
        wrong("$A|A");
        wrong("|$$A");
        wrong("$A|$I");

        Sentences.held(TOKENS, "(\"$\" at the end of the buffer is a token by itself);");
        wrong("|$");
        wrong("1 |$");
        wrong("$A|$");
        wrong(" ".repeat(159) + "|$");
        wrong("1 1 move|$");
    }

    private static void words() {
        Sentences.held(TOKENS, "- a maximal run of small letters a to z: this is an operator if it is one of those "
                + "below;");
        // the neighbours of a and z are tokens by themselves, and so are great letters
        for (String other : new String[] {"`", "{", "A", "Z", "_", "\u00e4"}) {
            wrong("add|" + other);
            wrong("add|" + other + "add");
        }
        wrong("|addadd");
        wrong("|addx");
        wrong("|xadd");
        wrong("|a");
        wrong("|ad");
        wrong("|z");
        wrong("|zzz");
        for (String word : OPERATORS.split(" ")) {
            wrong("|" + word.substring(1));
            wrong("|" + word + "a");
            wrong("|" + word + "z");
            wrong("|z" + word);
        }
        right("add1sub", 3);
        right("1 1move1 1line fill", 7);
    }

    private static void otherCharacters() {
        Sentences.held(TOKENS, "- any other character except a space is a token by itself.");
        for (int c = 1; c <= 255; c++) {
            boolean letter = c >= 'a' && c <= 'z';
            boolean digit = c >= '-' && c <= '9' && c != '.';
            if (c != ' ' && c != '$' && !letter && !digit) {
                wrong("1|" + (char) c);
                wrong("add|" + (char) c + (char) c);
                wrong("$A|" + (char) c + " 1");
            }
        }
    }

    private static void spaces() {
        Sentences.held(TOKENS, "Spaces (code 32) may stand before, between and after tokens.");
        right(" ", 0);
        right(" ".repeat(160), 0);
        right("  1", 1);
        right("1  ", 1);
        right("  1   $A   pop  ", 3);
        wrong("1 |- 1");
        wrong("|ad d");
        wrong("|$ A");
        wrong("1 |/ 2");
        for (char c : new char[] {1, 9, 10, 13, 31, 33, 160}) {
            wrong("1|" + c + "1");
        }
    }

    private static void numbering() {
        Sentences.held(TOKENS, "Tokens of a stream are numbered from 0.");
        PageInterpreter x = Check.ran("pop", 2);
        Check.due("the first one", 0, x.result(2));
        x = Check.ran("1 pop", 0);
        Check.due("the second one", 1, x.trace(0, 1));
        x = Check.ran("1pop".repeat(40), 0);
        Check.due("the last one of 80", 79, x.trace(39, 1));
    }

    private static void order() {
        Sentences.held(STRUCTURE, "A text is a stream if all tokens are numbers, names or operators, and if the "
                + "following holds, the tokens being gone through in the order in which they stand:");
        right("1 $A pop pop", 4);
        wrong("1 |# fill");
        wrong("1 |fill #");
        wrong("|restore restore");
        wrong("1 1 move |$A 01");
        wrong("1 1 move |01 $A");
        wrong("save repeat |01");
        // what a text that is no stream left open does not matter to the next one
        PageInterpreter x = new PageInterpreter();
        for (String open : new String[] {"save", "repeat", "1 1 move", "1 1 1 1 rect clip",
                "save save save save save save",
            "repeat repeat repeat", "1 1 move xclip $A"}) {
            Check.write(x, open);
            Check.due("setStream of " + open, 1, x.setStream(0) < 0 ? 1 : 0);
            for (String text : new String[] {"restore", "next", "line", "clip"}) {
                x.clearBuffer();
                Check.write(x, text);
                Check.due("setStream of " + text, -10, x.setStream(0));
            }
            x.clearBuffer();
            Check.write(x, "save save restore restore repeat next $A move clip fill");
            Check.due("setStream behind " + open, 10, x.setStream(0));
            x = new PageInterpreter();
        }
    }

    private static void belonging() {
        Sentences.held(STRUCTURE, "- Each restore belongs to the latest save before it that has no restore yet, each "
                + "next to the latest repeat that has no next yet;");
        right("save restore", 2);
        right("save save restore restore save restore", 6);
        right("1 repeat next", 3);
        wrong("|restore");
        wrong("|next");
        wrong("save restore |restore");
        wrong("repeat next |next");
        wrong("save save restore restore |restore save");
        wrong("|restore save");
        // the first restore is that of the second save, the first next that of the second repeat
        PageInterpreter x = Check.ran("save 2 color save 3 color restore 0 0 1 1 rect fill restore 0 0 1 1 rect fill",
                0);
        Check.due("the colour at the first save's", 2, x.item(0, 0));
        Check.due("the colour at the beginning", 1, x.item(1, 0));
        x = Check.ran("0 2 repeat 3 repeat 1 add next 100 add next", 0);
        Check.operand(x, 0, 206, 1);
        x = Check.ran("0 2 repeat 0 repeat 1 add next 100 add next", 0);
        Check.operand(x, 0, 200, 1);
        x = Check.ran("0 0 repeat 3 repeat 1 add next 100 add next", 0);
        Check.operand(x, 0, 0, 1);
    }

    private static void enclosing() {
        Sentences.held(STRUCTURE, "a repeat and its next enclose whole pairs of save and restore (and of repeat and "
                + "next).");
        right("repeat save restore next", 4);
        right("save repeat next restore", 4);
        right("repeat save repeat save restore next restore next", 8);
        wrong("repeat save |next restore");
        wrong("save repeat |restore next");
        wrong("save |next");
        wrong("repeat |restore");
        wrong("save repeat save restore |restore next");
        wrong("repeat repeat next save |next restore");
    }

    private static void depths() {
        Sentences.held(STRUCTURE, "At most 6 pairs of save and restore enclose a place, and at most 3 pairs of repeat "
                + "and next.");
        right("save ".repeat(6) + "restore ".repeat(6), 12);
        wrong("save ".repeat(6) + "|save " + "restore ".repeat(7));
        right("save ".repeat(6) + "restore save restore " + "restore ".repeat(5), 14);
        right("save restore ".repeat(12), 24);
        wrong("save restore " + "save ".repeat(6) + "|save");
        right("repeat ".repeat(3) + "next ".repeat(3), 6);
        wrong("repeat ".repeat(3) + "|repeat " + "next ".repeat(4));
        right("repeat ".repeat(3) + "next repeat next " + "next ".repeat(2), 8);
        right("repeat next ".repeat(13), 26);
        wrong("repeat next " + "repeat ".repeat(3) + "|repeat");
        // the two are counted by themselves
        right("save ".repeat(6) + "repeat ".repeat(3) + "next ".repeat(3) + "restore ".repeat(6), 18);
        right("repeat ".repeat(3) + "save ".repeat(6) + "restore ".repeat(6) + "next ".repeat(3), 18);
        wrong("repeat ".repeat(3) + "save ".repeat(6) + "|save");
        wrong("save ".repeat(6) + "repeat ".repeat(3) + "|repeat");
    }

    private static void openPaths() {
        Sentences.held(STRUCTURE, "- A path is open from a move or rect to the next fill, xfill or drop.");
        for (String begin : "move rect".split(" ")) {
            for (String end : "fill xfill drop".split(" ")) {
                right(begin + " " + end, 2);
                right("save " + begin + " " + end + " restore", 4);
                wrong(begin + " " + end + " |" + end);
                wrong(begin + " |save " + end);
                right(begin + " " + end + " " + begin + " " + end + " save restore", 6);
            }
            wrong(begin + " |restore");
            wrong(begin + " clip |draw");
        }

        Sentences.held(STRUCTURE, "While it is open, only these operators are allowed, and names are not: move, line, "
                + "close, rect, clip, xclip, fill, xfill, drop, pop, dup, exch, add, sub, mul, div.");
        for (String w : "save restore concat color draw repeat next $A $H".split(" ")) {
            wrong("save repeat 1 1 move |" + w);
            wrong("repeat save 1 1 1 1 rect |" + w);
        }
        for (String w : "move line close rect clip xclip pop dup exch add sub mul div 1 -5/2".split(" ")) {
            right("move " + w + " fill", 3);
        }
        for (String w : "fill xfill drop".split(" ")) {
            right("move " + w, 2);
        }
    }

    private static void closedPaths() {
        Sentences.held(STRUCTURE, "While no path is open, line, close, clip, xclip, fill, xfill and drop are not "
                + "allowed.");
        for (String w : "line close clip xclip fill xfill drop".split(" ")) {
            wrong("|" + w);
            wrong("1 1 |" + w);
            wrong("move fill |" + w);
            wrong("rect drop |" + w);
            wrong("move line xfill |" + w);
        }
        right("pop dup exch add sub mul div concat color draw $A 1 repeat next save restore", 16);
    }

    private static void parts() {
        Sentences.held(STRUCTURE, "- line and close are allowed only while a part of the path is open: from a move to "
                + "the next close, rect or move (which ends the part and begins another one).");
        right("move line fill", 3);
        right("move close fill", 3);
        right("move line line close fill", 5);
        wrong("rect |line fill");
        wrong("rect |close fill");
        wrong("move close |line");
        wrong("move close |close");
        wrong("move rect |line");
        wrong("move rect |close");
        right("move move line close fill", 5);
        right("move move close move line fill", 6);
        wrong("move move close |close");
        right("rect move line close rect move close fill", 8);
        right("move clip line 1 pop line close fill", 8);
        wrong("move fill rect |line");
    }

    private static void marks() {
        Sentences.held(STRUCTURE, "clip or xclip is allowed only once while a path is open.");
        for (String first : "clip xclip".split(" ")) {
            right("move " + first + " fill", 3);
            right("rect " + first + " drop rect " + first + " xfill", 6);
            for (String second : "clip xclip".split(" ")) {
                wrong("move " + first + " |" + second);
                wrong("rect " + first + " move line close |" + second + " fill");
                right("rect " + first + " fill move " + second + " drop", 6);
            }
        }
    }

    private static void ends() {
        Sentences.held(STRUCTURE, "- At the end all pairs are complete, and no path is open.");
        right("", 0);
        wrong("save|");
        wrong("repeat|");
        wrong("save save restore|");
        wrong("repeat repeat next|");
        wrong("move|");
        wrong("rect|");
        wrong("move close|");
        wrong("rect fill rect|");
        right("save repeat move fill next restore", 6);
    }

    private static void errorPositions() {
        Sentences.held(STRUCTURE, "The error position is the offset (from 0) of the first character of the first token "
                + "that is not allowed where it stands; it is the length of the text if only the last condition does "
                + "not hold.");
        wrong("|fill");
        wrong(" |fill");
        wrong(" ".repeat(156) + "|fill");
        wrong("1 1 1 |addd");
        wrong("save |fill");
        wrong("repeat save 1 |# ");
        wrong("save 1 |");
        wrong("save    |");
        wrong("save" + " ".repeat(156) + "|");
        wrong("save 1 1 move|");
    }
}
