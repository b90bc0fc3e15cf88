/** Promise 4: which texts are streams, where the others have their error, and how many tokens there are. */
public final class StreamsTest {
    public static void main(String[] args) {
        numbers();
        names();
        words();
        otherCharacters();
        pairs();
        depths();
        paths();
        parts();
        clips();
        ends();
        longTexts();
        oneAfterTheOther();
        Check.end("StreamsTest");
    }

    /** The text is a stream of a number of tokens. */
    private static void right(String text, int tokens) {
        answer(text, tokens);
    }

    /** The text is no stream; its error is where the bar stands (which does not belong to it). */
    private static void wrong(String text) {
        int at = text.indexOf('|');
        answer(text.substring(0, at) + text.substring(at + 1), -10 - at);
    }

    private static void answer(String text, int want) {
        PageInterpreter x = new PageInterpreter();
        Check.write(x, text);
        Check.due("setStream of '" + text + "'", want, x.setStream(2));
        Check.due("tokenCount of '" + text + "'", want < 0 ? Check.NONE : want, x.tokenCount(2));
        Check.due("buffer after '" + text + "'", want < 0 ? text.length() : 0, x.clearBuffer());
    }

    private static void numbers() {
        for (String n : "0 -0 7 10 999 -999 0/2 -5/2 100/9 -0/9".split(" ")) {
            right(n, 1);
            right("  " + n + " ", 1);
        }
        for (String n : ("- / -- 00 01 -01 1000 1/1 1/0 1/ /2 -/2 1/10 1/22 1/2/3 1/-2 1-2 --1 1- 0123 "
                + "1//2 12/a").split(" ")) {
            wrong("1 |" + n);
        }
        wrong("|+1");
        wrong("1|.5");
    }

    private static void names() {
        right("$A$B$C$D$E$F$G$H", 8);
        right("1$A1", 3);
        right("$Aadd", 2);
        for (String n : new String[] {"$I", "$@", "$a", "$1", "$$", "$ ", "$", "$ A"}) {
            wrong("pop |" + n);
        }
        wrong("$A|A");
    }

    private static void words() {
        right("1add2sub", 4);
        right("$Apop", 2);
        right("1 2 move fill", 4);
        wrong("|addsub");
        wrong("add |ad");
        wrong("add |adds");
        wrong("|Add");
        wrong("1 |push");
        wrong("|popz");
        wrong("|apop");
        wrong("|adda");
        wrong("|bave");
        wrong("1 2 move |gill");
        wrong("1 2 move |filk");
        wrong("1 2 move |fkll");
        String all = "save restore 1 repeat next 1 1 move 1 1 line close 1 1 1 1 rect clip fill 0 0 move xclip xfill "
                + "0 0 move drop 1 color $A draw dup pop exch add sub mul div concat";
        right(all, all.split(" ").length);
        right("1 1 move 1 1 line close 1 1 1 1 rect clip pop dup exch add sub mul div fill", 21);
    }

    private static void otherCharacters() {
        for (char c : new char[] {1, 9, 10, 13, 33, 46, 64, 65, 90, 91, 95, 96, 123, 127, 128, 160, 255}) {
            wrong("pop |" + c);
            wrong("1|" + c + "1");
        }
    }

    private static void pairs() {
        right("save restore", 2);
        right("save save restore restore save restore", 6);
        right("repeat next", 2);
        right("save repeat save restore next restore", 6);
        wrong("|restore");
        wrong("|next");
        wrong("save |next");
        wrong("repeat |restore");
        wrong("save repeat |restore next");
        wrong("repeat save |next restore");
        wrong("save restore |restore");
        wrong("repeat next |next");
    }

    private static void depths() {
        right("save save save save save save restore restore restore restore restore restore", 12);
        wrong("save save save save save save |save restore restore restore restore restore restore restore");
        right("save save save save save save restore save restore restore restore restore restore restore", 14);
        right("repeat repeat repeat next next next", 6);
        wrong("repeat repeat repeat |repeat next next next next");
        right("repeat repeat repeat next repeat next next next", 8);
        right("save save save repeat repeat repeat save save save restore restore restore next next next "
                + "restore restore restore", 18);
        wrong("save save save repeat repeat repeat save save save |save");
        wrong("repeat save repeat save repeat save |repeat");
        wrong("save restore repeat next save save save save save save |save");
        wrong("save restore repeat next repeat repeat repeat |repeat");
    }

    private static void paths() {
        for (String w : "line close clip xclip fill xfill drop".split(" ")) {
            wrong("1 2 |" + w);
            wrong("1 2 move fill |" + w);
            wrong("1 2 1 2 rect xfill |" + w);
            wrong("1 2 1 2 rect drop |" + w);
        }
        for (String w : "save restore concat color draw repeat next $A $H".split(" ")) {
            wrong("save repeat 1 2 move |" + w);
            wrong("save repeat 1 1 1 1 rect |" + w);
            wrong("save repeat 1 2 move close |" + w);
        }
        for (String w : "pop dup exch add sub mul div 1 -1/2".split(" ")) {
            right("1 2 move " + w + " fill", 5);
            right("1 2 1 2 rect " + w + " drop", 7);
            right(w, 1);
        }
        for (String w : "concat color draw $A save".split(" ")) {
            wrong("1 2 move fill " + w + " |fill");
        }
    }

    private static void parts() {
        right("move line line close move line rect move close fill", 10);
        right("move move move fill", 4);
        right("rect rect move xfill", 4);
        wrong("move close |line");
        wrong("move close |close");
        wrong("rect |line");
        wrong("rect |close");
        wrong("move line rect |line");
        wrong("move line rect |close");
        right("move close move line close drop", 6);
        wrong("move fill move close |line");
        wrong("move fill rect |line");
    }

    private static void clips() {
        right("move clip line fill", 4);
        right("rect xclip move line xfill", 5);
        wrong("move clip |clip");
        wrong("move clip |xclip");
        wrong("move xclip line |clip");
        wrong("rect xclip |xclip");
        wrong("rect clip move close |clip");
        right("rect clip drop rect clip drop", 6);
        right("rect clip fill rect xclip xfill", 6);
    }

    private static void ends() {
        wrong("save|");
        wrong("save 1 |");
        wrong("repeat|");
        wrong("move|");
        wrong("rect 1  |");
        wrong("save 1 restore rect|");
        wrong("move clip|");
        wrong("move close|");
        wrong("|fill save");
        wrong("save |fill");
    }

    /** What an earlier text left open does not matter to the next one. */
    private static void oneAfterTheOther() {
        String[] texts = {"save repeat", "1 1 move clip", "save save save save save", "repeat repeat", "1 1 1 1 rect clip"};
        for (String text : texts) {
            PageInterpreter x = new PageInterpreter();
            Check.write(x, text);
            Check.due("setStream of " + text, -10 - text.length(), x.setStream(0));
            x.clearBuffer();
            Check.write(x, "save save restore restore repeat repeat next next $A move clip fill");
            Check.due("setStream after " + text, 12, x.setStream(0));
            Check.write(x, "restore");
            Check.due("restore after " + text, -10, x.setStream(0));
            x.clearBuffer();
            Check.write(x, "line");
            Check.due("line after " + text, -10, x.setStream(0));
            x.clearBuffer();
            Check.write(x, "5 3");
            Check.due("two numbers", 2, x.setStream(0));
        }
    }

    private static void longTexts() {
        StringBuilder digits = new StringBuilder();
        for (int i = 0; i < 80; i++) {
            digits.append("1 ");
        }
        right(digits.toString(), 80);
        right(digits.substring(0, 156) + "draw", 79);
        wrong(digits.substring(0, 156) + "|fill");
        wrong(digits.substring(0, 156) + "save|");
        StringBuilder mixed = new StringBuilder();
        for (int i = 0; i < 40; i++) {
            mixed.append("1pop");
        }
        right(mixed.toString(), 80);
        wrong(mixed.substring(0, 156) + "1  |$");
        wrong("1 |" + "a".repeat(158));
        wrong("1 |" + "1".repeat(158));
        wrong("|" + "#".repeat(160));
    }
}
