/** The four examples of the document, and the constants. */
public final class ExamplesTest {
    public static void main(String[] args) {
        addition();
        division();
        saveAlone();
        fillAlone();
        Check.due("INVALID_ARGUMENT", -10000001, PageInterpreter.INVALID_ARGUMENT);
        Check.due("ILLEGAL_STATE", -10000002, PageInterpreter.ILLEGAL_STATE);
        Check.due("CAPACITY_EXCEEDED", -10000003, PageInterpreter.CAPACITY_EXCEEDED);
        Check.due("NONE", -10000009, PageInterpreter.NONE);
        Check.end("ExamplesTest");
    }

    private static PageInterpreter written(int... characters) {
        PageInterpreter x = new PageInterpreter();
        for (int i = 0; i < characters.length; i++) {
            Check.due("append(" + characters[i] + ")", i + 1, x.append(characters[i]));
        }
        return x;
    }

    private static void addition() {
        PageInterpreter x = written(49, 32, 50, 32, 97, 100, 100);
        Check.due("setStream(-1)", 3, x.setStream(-1));
        Check.due("run()", 0, x.run());
        Check.due("operand(0, 0)", 3, x.operand(0, 0));
        Check.due("result(3)", 1, x.result(3));
    }

    private static void division() {
        PageInterpreter x = written(49, 32, 48, 32, 100, 105, 118);
        Check.due("setStream(-1)", 3, x.setStream(-1));
        Check.due("run()", 5, x.run());
        Check.due("result(2)", 2, x.result(2));
        Check.due("operand(0, 0)", 1, x.operand(0, 0));
    }

    private static void saveAlone() {
        PageInterpreter x = written(115, 97, 118, 101, 32, 49);
        Check.due("setStream(0)", -16, x.setStream(0));
        Check.due("clearBuffer()", 6, x.clearBuffer());
        Check.due("tokenCount(0)", -10000009, x.tokenCount(0));
    }

    private static void fillAlone() {
        PageInterpreter x = written(102, 105, 108, 108);
        Check.due("setStream(-1)", -10, x.setStream(-1));
        Check.due("run()", -10000002, x.run());
    }
}
