/** Boundary cases of promise 17. */
public final class Promise17BoxesTest extends Checks {

    public static void main(String[] args) {
        test("promise 17: none yet", Promise17BoxesTest::noneYet);
        test("promise 17: one more for each that is made", Promise17BoxesTest::oneMore);
        test("promise 17: signs that are put together count", Promise17BoxesTest::signsCount);
        test("promise 17: calls that make none", Promise17BoxesTest::noneMade);
        test("promise 17: refused calls make none", Promise17BoxesTest::refusedMakeNone);
        test("promise 17: 120 at most", Promise17BoxesTest::atMost120);
        test("promise 17: up to the 512th call", Promise17BoxesTest::upToThe512thCall);
        end();
    }

    private static void noneYet() {
        FormulaShapes x = new FormulaShapes();
        same("at first", x.boxes(), 0);
        same("asked again", x.boxes(), 0);
    }

    private static void oneMore() {
        FormulaShapes x = new FormulaShapes();
        Call[] calls = {
            y -> y.box(1, 2, 3),
            y -> y.fraction(TEXT, 0, 0, 0),
            y -> y.fraction(TEXT, 0, 0, 1),
            y -> y.signs(TEXT, CRAMPED, 0, LETTER, 0, NONE),
            y -> y.signs(TEXT, CRAMPED, 0, LETTER, 0, 0),
            y -> y.limits(TEXT, 0, NONE, 0),
            y -> y.limits(TEXT, 0, 0, 0),
            y -> y.row(0, 0, 0),
            y -> y.centre(TEXT, 0),
        };
        for (int i = 0; i < calls.length; i++) {
            calls[i].on(x);
            same("call " + i, x.boxes(), i + 1);
        }
    }

    private static void signsCount() {
        FormulaShapes x = Scenes.workshop();
        int pieces = Scenes.PIECES_ALONE;
        x.signOf(pieces, 5);
        same("signOf", x.boxes(), Scenes.BOXES + 1);
        x.root(TEXT, 0, pieces);
        same("root", x.boxes(), Scenes.BOXES + 3);
        x.brackets(TEXT, pieces, 0, pieces);
        same("brackets", x.boxes(), Scenes.BOXES + 6);
        x.brackets(TEXT, 0, 0, pieces);
        same("brackets, the right one", x.boxes(), Scenes.BOXES + 8);
        x.brackets(TEXT, pieces, 0, 0);
        same("brackets, the left one", x.boxes(), Scenes.BOXES + 10);
        x.root(TEXT, 0, Scenes.TWO_BOXES);
        same("a root of a ready sign", x.boxes(), Scenes.BOXES + 11);
        x.brackets(TEXT, 0, 0, 0);
        same("brackets of ready signs", x.boxes(), Scenes.BOXES + 12);
    }

    private static void noneMade() {
        FormulaShapes x = Scenes.workshop();
        x.parameter(0, 0, 1);
        x.set(0, 1);
        x.sign(Scenes.TWO_BOXES, 0);
        x.pieces(Scenes.EMPTY, NONE, NONE, NONE, 0);
        x.signOf(Scenes.TWO_BOXES, 0);
        x.signOf(Scenes.TWO_BOXES, 100000000);
        x.told(0, 0);
        x.part(Scenes.ROW, 0, 0);
        same("as before", x.boxes(), Scenes.BOXES);
    }

    private static void refusedMakeNone() {
        FormulaShapes x = Scenes.workshop();
        thrown("box", ARGUMENT, x, y -> y.box(-1, 0, 0));
        thrown("signOf", STATE, x, y -> y.signOf(Scenes.EMPTY, 0));
        thrown("root", STATE, x, y -> y.root(TEXT, 0, Scenes.EMPTY));
        thrown("brackets", STATE, x, y -> y.brackets(TEXT, Scenes.PIECES_ALONE, 0, Scenes.EMPTY));
        thrown("row", INDEX, x, y -> y.row(0, 0, Scenes.BOXES));
        same("as before", x.boxes(), Scenes.BOXES);
        same("the next one's number", x.box(1, 2, 3), Scenes.BOXES);
    }

    private static void atMost120() {
        FormulaShapes x = Scenes.filledTo(119);
        same("119", x.boxes(), 119);
        same("the last one's number", x.row(0, 0, 118), 119);
        same("120", x.boxes(), 120);
        thrown("no more", UNSUPPORTED, x, y -> y.row(0, 0, 118));
        same("still 120", x.boxes(), 120);
    }

    private static void upToThe512thCall() {
        FormulaShapes x = new FormulaShapes();
        for (int i = 0; i < 120; i++) {
            x.box(i, 0, 0);
        }
        for (int i = 120; i < 510; i++) {
            same("call " + (i + 1), x.told(i % 120, 0), i % 120);
        }
        same("the 511th", x.told(119, 0), 119);
        same("the 512th", x.boxes(), 120);
    }
}
