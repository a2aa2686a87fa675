/** Boundary cases of promise 1: nothing is there yet. */
public final class Promise01NewObjectTest extends Checks {

    public static void main(String[] args) {
        test("promise 1: no boxes", Promise01NewObjectTest::noBoxes);
        test("promise 1: families without any", Promise01NewObjectTest::familiesWithoutAny);
        test("promise 1: all parameters 0", Promise01NewObjectTest::allParametersAre0);
        test("promise 1: SPACE and SHORT at first 0", Promise01NewObjectTest::spaceAndShortAre0);
        test("promise 1: new beside others", Promise01NewObjectTest::newBesideOthers);
        end();
    }

    private static void noBoxes() {
        same("boxes()", new FormulaShapes().boxes(), 0);
        refused("told", INDEX, FormulaShapes::new, x -> x.told(0, 0));
        refused("part", INDEX, FormulaShapes::new, x -> x.part(0, 0, 0));
        refused("sign", INDEX, FormulaShapes::new, x -> x.sign(0, 0));
        refused("pieces", INDEX, FormulaShapes::new, x -> x.pieces(0, NONE, NONE, NONE, 0));
        refused("fraction", INDEX, FormulaShapes::new, x -> x.fraction(TEXT, 0, 0, 0));
        refused("root", INDEX, FormulaShapes::new, x -> x.root(TEXT, 0, 0));
        refused("signs", INDEX, FormulaShapes::new,
                x -> x.signs(TEXT, !CRAMPED, 0, !LETTER, NONE, NONE));
        refused("limits", INDEX, FormulaShapes::new, x -> x.limits(TEXT, 0, NONE, NONE));
        refused("brackets", INDEX, FormulaShapes::new, x -> x.brackets(TEXT, 0, 0, 0));
        refused("row", INDEX, FormulaShapes::new, x -> x.row(0, 0, 0));
        refused("centre", INDEX, FormulaShapes::new, x -> x.centre(TEXT, 0));
        same("the first box's number", new FormulaShapes().box(1, 2, 3), 0);
    }

    private static void familiesWithoutAny() {
        FormulaShapes x = new FormulaShapes();
        x.box(1, 2, 3);
        for (int family = 0; family < 8; family++) {
            int f = family;
            refused("signOf " + f, STATE, FormulaShapes::new, y -> y.signOf(f, 0));
            thrown("root " + f, STATE, x, y -> y.root(TEXT, 0, f));
            thrown("brackets " + f, STATE, x, y -> y.brackets(TEXT, f, 0, f));
            same("its first box", x.sign(f, 0), 1);
            same("no pieces, so the last box", x.signOf(f, 100000000), 0);
        }
        same("boxes()", x.boxes(), 1);
    }

    private static void allParametersAre0() {
        FormulaShapes x = new FormulaShapes();
        for (int i = 0; i < 63; i++) {
            same("P(" + i % 21 + ") of size " + i / 21, x.parameter(i / 21, i % 21, 0), 0);
        }
        FormulaShapes y = new FormulaShapes();
        y.box(1, 4, 2);
        for (int style = DISPLAY; style <= LEAST; style++) {
            same("centre", y.centre(style, 0), style + 1);
            lies(y, "on the line", style + 1, 0, 0, -1);
        }
    }

    private static void spaceAndShortAre0() {
        FormulaShapes x = new FormulaShapes();
        same("SPACE", x.set(0, 0), 0);
        same("SHORT", x.set(1, 0), 0);
        FormulaShapes y = new FormulaShapes();
        y.box(10, 7, 7);
        y.box(4, 0, 0);
        same("no space behind signs", y.told(y.signs(TEXT, !CRAMPED, 0, !LETTER, 1, NONE), 0), 14);
        int first = Scenes.ladder(y, 0, 13, 14);
        same("no bracket is short", y.part(y.brackets(TEXT, 0, 0, 0), 0, 0), first + 1);
    }

    private static void newBesideOthers() {
        FormulaShapes other = Scenes.full();
        FormulaShapes x = new FormulaShapes();
        same("boxes()", x.boxes(), 0);
        same("SPACE", x.set(0, 1), 0);
        same("P(0)", x.parameter(0, 0, 1), 0);
        same("a box", x.box(1, 2, 3), 0);
        same("a family's box", x.sign(Scenes.FOUR_BOXES, 0), 1);
        same("the other one's boxes", other.boxes(), 120);
        same("the other one's SPACE", other.set(0, 0), 11);
        same("the other one's P(0)", other.parameter(0, 0, 0), 4);
        same("the other one's sign", other.signOf(Scenes.FOUR_BOXES, 11), 1);
    }
}
