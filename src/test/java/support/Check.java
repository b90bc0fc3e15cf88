import java.util.Set;
import java.util.TreeSet;

/** Compares answers, and counts those that are not as due. */
final class Check {
    static final int INVALID = PageInterpreter.INVALID_ARGUMENT;
    static final int ILLEGAL = PageInterpreter.ILLEGAL_STATE;
    static final int FULL = PageInterpreter.CAPACITY_EXCEEDED;
    static final int NONE = PageInterpreter.NONE;

    private static final Set<String> FAILED = new TreeSet<>();
    private static String about = "";
    private static int wrong;
    private static int compared;

    private Check() { }

    static void due(String call, long want, long got) {
        compared++;
        if (got != want) {
            wrong++;
            FAILED.add(about);
            if (wrong <= 30) {
                System.out.println((about.isEmpty() ? "" : "[" + about + "] ") + call + " answered " + got
                        + ", due is " + want);
            }
        }
    }

    /** Says what the next comparisons are about. */
    static void about(String words) {
        about = words;
    }

    /** What the latest comparisons were about. */
    static String about() {
        return about;
    }

    /** What the comparisons were about that were not as due. */
    static Set<String> failed() {
        return FAILED;
    }

    static int wrong() {
        return wrong;
    }

    /** Appends a text to the buffer. */
    static void write(PageInterpreter x, String text) {
        for (int i = 0; i < text.length(); i++) {
            due("append in " + text, 1, x.append(text.charAt(i)) > 0 ? 1 : 0);
        }
    }

    /** Sets a stream that has to be right. */
    static void stream(PageInterpreter x, int stream, String text) {
        x.clearBuffer();
        write(x, text);
        int answer = x.setStream(stream);
        due("setStream of " + text, 1, answer >= 0 ? 1 : 0);
    }

    /** A new object with a page. */
    static PageInterpreter page(String text) {
        PageInterpreter x = new PageInterpreter();
        stream(x, -1, text);
        return x;
    }

    /** A new object whose page has been run, with the error kind that is due. */
    static PageInterpreter ran(String text, int kind) {
        PageInterpreter x = page(text);
        due("run of " + text, kind, x.run());
        return x;
    }

    /** Compares an operand, as a fraction. */
    static void operand(PageInterpreter x, int index, int numerator, int denominator) {
        due("operand(" + index + ", 0)", numerator, x.operand(index, 0));
        due("operand(" + index + ", 1)", denominator, x.operand(index, 1));
    }

    /** Ends a test. */
    static void end(String test) {
        System.out.println(test + ": " + compared + " answers compared, " + wrong + " are not as due");
        if (wrong != 0 || compared == 0) {
            System.exit(1);
        }
    }
}
