import java.util.ArrayList;
import java.util.List;

/** Makes texts of streams, always the same ones for a seed. */
final class Texts {
    private static final String[] WORDS = {
        "save", "restore", "concat", "move", "line", "close", "rect", "clip", "xclip", "fill", "xfill", "drop",
        "color", "draw", "repeat", "next", "dup", "pop", "exch", "add", "sub", "mul", "div"
    };
    private static final String[] ODDITIES = {
        "-", "/", "--1", "1-2", "01", "00", "-0", "-0/2", "1/1", "1/0", "5/22", "1/2/3", "1000", "-1000", "999/9",
        "$", "$I", "$a", "$$", "$1", "Save", "sav", "saves", "a", "\t", "\u00ff", "+1", "1.5", "fil", "x", "clips",
        "-/2", "/2", "12/", "1-"
    };

    private long seed;

    Texts(long seed) {
        this.seed = seed * 2654435761L + 12345;
    }

    int below(int bound) {
        seed = seed * 6364136223846793005L + 1442695040888963407L;
        return (int) ((seed >>> 33) % bound);
    }

    <T> T one(List<T> all) {
        return all.get(below(all.size()));
    }

    String one(String[] all) {
        return all[below(all.length)];
    }

    String number() {
        return switch (below(12)) {
            case 0 -> "0";
            case 1 -> "-" + below(20);
            case 2 -> below(30) + "/" + (2 + below(8));
            case 3 -> "-" + below(30) + "/" + (2 + below(8));
            case 4 -> "" + below(1000);
            case 5 -> below(100) + "/" + (2 + below(8));
            default -> "" + below(14);
        };
    }

    String small() {
        return below(5) == 0 ? below(25) + "/2" : "" + (below(8) == 0 ? -below(9) : below(13));
    }

    String name() {
        return "$" + (char) ('A' + below(8));
    }

    /** A number of a name: 0 to 3 are mostly forms, 4 to 7 mostly colours. */
    int nameOf(int kind) {
        return below(12) == 0 ? below(8) : below(4) + (kind == 1 ? 4 : 0);
    }

    private String nameFor(int kind) {
        return "$" + (char) ('A' + nameOf(kind));
    }

    /** A text of a stream, mostly one that is right, of at most a number of characters. */
    String text(int most) {
        List<String> tokens = new ArrayList<>();
        int length = 0;
        for (int tries = 0; tries < 12; tries++) {
            List<String> more = statement(0);
            int added = more.stream().mapToInt(t -> t.length() + 1).sum();
            if (length + added <= most) {
                tokens.addAll(more);
                length += added;
            }
        }
        if (below(8) == 0) {
            spoil(tokens);
        }
        return join(tokens, most);
    }

    /** Tokens in any order. */
    String soup(int most) {
        List<String> tokens = new ArrayList<>();
        int count = below(12);
        for (int i = 0; i < count; i++) {
            tokens.add(token());
        }
        return join(tokens, most);
    }

    private String token() {
        return switch (below(10)) {
            case 0, 1 -> small();
            case 2 -> name();
            case 3 -> below(4) == 0 ? one(ODDITIES) : number();
            default -> one(WORDS);
        };
    }

    private void spoil(List<String> tokens) {
        int at = below(tokens.size() + 1);
        if (at < tokens.size() && below(2) == 0) {
            tokens.remove(at);
        } else {
            tokens.add(at, below(2) == 0 ? one(ODDITIES) : token());
        }
    }

    /** Puts spaces where they are needed, and sometimes elsewhere. */
    private String join(List<String> tokens, int most) {
        StringBuilder text = new StringBuilder();
        String before = "";
        for (String token : tokens) {
            boolean needed = !before.isEmpty() && kind(before.charAt(before.length() - 1)) == kind(token.charAt(0));
            if (needed || below(3) > 0) {
                text.append(below(20) == 0 ? "  " : " ");
            }
            text.append(token);
            before = token;
        }
        if (below(6) == 0) {
            text.append(' ');
        }
        return text.length() > most ? text.substring(0, most) : text.toString();
    }

    private static int kind(char c) {
        return c >= 'a' && c <= 'z' ? 1 : c >= '0' && c <= '9' || c == '-' || c == '/' ? 2 : 3;
    }

    private List<String> statement(int depth) {
        if (below(12) == 0) {
            return List.of(nearLimit().split(" "));
        }
        switch (below(depth > 2 ? 10 : 14)) {
            case 0: case 1: case 2:
                return path();
            case 3:
                return List.of(below(3) == 0 ? nameFor(1) : "" + below(below(9) == 0 ? 18 : 16), "color");
            case 4:
                return below(5) == 0
                        ? List.of(number(), number(), number(), number(), number(), number(), "concat")
                        : List.of("1", "0", "0", "1", small(), small(), "concat");
            case 5:
                return List.of("1/2", "0", below(3) == 0 ? "1/3" : "0", "-1", small(), small(), "concat");
            case 6: case 7:
                return List.of(nameFor(2), "draw");
            case 8:
                return arithmetic();
            case 9:
                return List.of(below(8) == 0 ? name() : number());
            case 10: case 11:
                return enclosed(depth, "save", "restore");
            default:
                return enclosed(depth, "repeat", "next");
        }
    }

    /** Tokens that come near to a limit of the document, or beyond it. */
    private String nearLimit() {
        String far = (below(2) == 0 ? "" : "-") + "500 2 mul 1 " + one(List.of("16", "31", "32", "33")) + " div "
                + one(List.of("add", "sub"));
        String factor = one(List.of("500 2 mul", "999 " + below(4) + " add", "-999 " + below(4) + " sub"));
        return switch (below(12)) {
            case 0 -> far + " " + far + " move " + one(List.of("fill", "xfill", "drop"));
            case 1 -> far + " 0 move fill";
            case 2 -> "500 2 mul dup mul " + number() + " " + one(List.of("add", "sub", "mul", "div"));
            case 3 -> "1 500 2 mul dup mul div " + number() + " " + one(List.of("add", "sub", "mul", "div"));
            case 4 -> factor + " 0 0 " + factor + " " + number() + " " + number() + " concat";
            case 5 -> "999 0 -999 0 0 0 concat " + factor + " dup move fill";
            case 6 -> ("0 0 " + small() + " 9 rect ").repeat(5 + below(2)) + "0 0 move " + "1 1 line ".repeat(below(5))
                    + "fill";
            case 7 -> (5 + below(3)) + " repeat 0 0 9 " + small() + " rect " + one(List.of("clip", "xclip")) + " "
                    + one(List.of("fill", "xfill", "drop")) + " next";
            case 8 -> "9 repeat 3 repeat 0 0 1 1 rect fill next next " + (1 + below(4)) + " repeat 0 0 9 1 rect fill "
                    + "next";
            case 9 -> "1 9 repeat dup next " + (1 + below(9)) + " repeat dup next";
            case 10 -> "save ".repeat(5 + below(3)) + "restore ".repeat(6).trim();
            default -> (1 + below(10)) + " repeat " + (1 + below(10)) + " repeat 1 pop next next";
        };
    }

    private List<String> arithmetic() {
        return switch (below(6)) {
            case 0 -> List.of(number(), "dup", one(List.of("add", "sub", "mul", "div")));
            case 1 -> List.of(number(), number(), "exch");
            case 2 -> List.of(name(), "dup");
            case 3 -> List.of(number(), "pop");
            case 4 -> below(4) == 0
                    ? List.of(one(List.of("add", "sub", "mul", "div", "exch", "dup", "pop")))
                    : List.of(number(), number(), number(), one(List.of("mul", "div")), one(List.of("mul", "div")));
            default -> List.of(number(), number(), one(List.of("add", "sub", "mul", "div")));
        };
    }

    private List<String> enclosed(int depth, String opening, String closing) {
        List<String> tokens = new ArrayList<>();
        if (opening.equals("repeat")) {
            tokens.add("" + (below(12) == 0 ? below(13) : below(5)));
        }
        tokens.add(opening);
        int count = below(4);
        for (int i = 0; i < count; i++) {
            tokens.addAll(statement(depth + 1));
        }
        tokens.add(closing);
        return tokens;
    }

    private List<String> path() {
        List<String> tokens = new ArrayList<>();
        int parts = 1 + below(3);
        boolean marked = false;
        for (int i = 0; i < parts; i++) {
            if (below(2) == 0) {
                tokens.addAll(List.of(small(), small(), small(), small(), "rect"));
            } else {
                tokens.addAll(List.of(small(), small(), "move"));
                int lines = below(5);
                for (int k = 0; k < lines; k++) {
                    tokens.addAll(List.of(small(), small(), "line"));
                }
                if (below(2) == 0) {
                    tokens.add("close");
                }
            }
            if (!marked && below(3) == 0) {
                marked = true;
                tokens.add(below(2) == 0 ? "clip" : "xclip");
            }
        }
        tokens.add(one(List.of("fill", "xfill", "fill", "xfill", "drop")));
        return tokens;
    }
}
