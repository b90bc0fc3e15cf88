/**
 * What names no boundary: the signatures and the face, which LanguageTest holds, the examples and the constants, which
 * ExamplesTest holds, and words that only lead to others.
 */
final class NoBoundaries {
    private NoBoundaries() { }

    static void all() {
        Sentences.plain("What it is", "An interpreter for a small page description language: streams of operators with "
                + "an operand stack, a stack of graphics states, matrices in fractions, paths, clipping, named "
                + "resources that drawn forms inherit from their callers, loops, and a budget of operators; the "
                + "painted items can be examined cell by cell.");
        Sentences.plainFrom("The public face", "");
        Sentences.plainFrom("Errors of calls", "Examples: ");
        signatures();
    }

    private static void signatures() {
        Sentences.plain("Promise 1: A new object", "`PageInterpreter()`");
        Sentences.plain("Promise 2: append", "`int append(int character)`");
        Sentences.plain("Promise 2: append", "---- page and forms");
        Sentences.plain("Promise 3: clearBuffer", "`int clearBuffer()`");
        Sentences.plain("Promise 4: setStream", "`int setStream(int stream)`");
        Sentences.plain("Promise 5: tokenCount", "`int tokenCount(int stream)`");
        Sentences.plain("Promise 6: setBox", "`int setBox(int form, int x0, int y0, int x1, int y1)`");
        Sentences.plain("Promise 7: removeBox", "`int removeBox(int form)`");
        Sentences.plain("Promise 8: define", "`int define(int stream, int name, int kind, int value)`");
        Sentences.plain("Promise 9: removeResource", "`int removeResource(int stream, int name)`");
        Sentences.plain("Promise 10: resource", "`int resource(int stream, int name)`");
        Sentences.plain("Promise 11: setSize", "`int setSize(int width, int height)`");
        Sentences.plain("Promise 12: setBudget", "`int setBudget(int operators)`");
        Sentences.plain("Promise 13: undo", "`int undo()`");
        Sentences.plain("Promise 14: run", "`int run()`");
        Sentences.plain("Promise 14: run", "---- running");
        Sentences.plain("Promise 15: result", "`int result(int what)`");
        Sentences.plain("Promise 16: operand", "`int operand(int index, int part)`");
        Sentences.plain("Promise 17: matrix", "`int matrix(int entry, int part)`");
        Sentences.plain("Promise 18: trace", "`int trace(int index, int what)`");
        Sentences.plain("Promise 19: cell", "`int cell(int x, int y)`");
        Sentences.plain("Promise 19: cell", "---- painted items");
        Sentences.plain("Promise 20: countColor", "`int countColor(int color)`");
        Sentences.plain("Promise 21: itemAt", "`int itemAt(int x, int y)`");
        Sentences.plain("Promise 22: item", "`int item(int item, int what)`");
        Sentences.plain("Promise 23: point", "`int point(int item, int point, int coordinate)`");
        Sentences.plain("Promise 24: bound", "`int bound(int item, int side)`");
        Sentences.plain("Promise 25: doubleArea", "`long doubleArea(int item)`");
    }
}
