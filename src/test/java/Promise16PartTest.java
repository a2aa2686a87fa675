/** Boundary cases of promise 16. */
public final class Promise16PartTest extends Checks {

    private static final int[] NO_WHATS = {LEAST_INT, -1, 6, 7, MOST_INT};

    /** Three times the last two wraps around to 2 and to 1. */
    private static final int[] NO_PARTS = {
        LEAST_INT, -2, -1, 120, MOST_INT, 1431655766, -1431655765};

    public static void main(String[] args) {
        test("promise 16: there is no such box", Promise16PartTest::noSuchBox);
        test("promise 16: a box without parts", Promise16PartTest::noParts);
        test("promise 16: i from 0 to the last", Promise16PartTest::numbersOfParts);
        test("promise 16: what from 0 to 5", Promise16PartTest::whats);
        test("promise 16: NONE for a rule, and no depth", Promise16PartTest::ruleOfFraction);
        test("promise 16: a root's rule", Promise16PartTest::ruleOfRoot);
        test("promise 16: a part's own numbers", Promise16PartTest::ownNumbers);
        end();
    }

    private static void noSuchBox() {
        for (int what = 0; what < 6; what++) {
            int w = what;
            refused("nothing there yet", INDEX, FormulaShapes::new, x -> x.part(0, 0, w));
            for (int box : noBoxes(Scenes.BOXES)) {
                refused("box " + box, INDEX, Scenes::workshop, x -> x.part(box, 0, w));
            }
            refused("box 120 of 120", INDEX, Scenes::full, x -> x.part(120, 0, w));
        }
    }

    private static void noParts() {
        for (int what = 0; what < 6; what++) {
            int w = what;
            refused("part 0", INDEX, Scenes::workshop, x -> x.part(0, 0, w));
            refused("part -1", INDEX, Scenes::workshop, x -> x.part(0, -1, w));
        }
        FormulaShapes x = Scenes.workshop();
        x.pieces(Scenes.EMPTY, NONE, NONE, NONE, 0);
        int box = x.signOf(Scenes.EMPTY, 0);
        thrown("put together of nothing", INDEX, x, y -> y.part(box, 0, 0));
    }

    private static void numbersOfParts() {
        FormulaShapes x = Scenes.workshop();
        same("the first", x.part(Scenes.ROW, 0, 0), 0);
        same("the last", x.part(Scenes.ROW, 1, 0), 1);
        for (int i : NO_PARTS) {
            refused("part " + i, INDEX, Scenes::workshop, y -> y.part(Scenes.ROW, i, 0));
            refused("part " + i, INDEX, Scenes::workshop, y -> y.part(Scenes.ROW, i, 5));
        }
        for (int what = 0; what < 6; what++) {
            int w = what;
            refused("part 2 of 2", INDEX, Scenes::workshop, y -> y.part(Scenes.ROW, 2, w));
        }
        x.pieces(Scenes.EMPTY, 0, 1, 0, 3);
        int box = x.signOf(Scenes.EMPTY, 100000000);
        same("the last of 123", x.part(box, 122, 0), 0);
        thrown("one behind it", INDEX, x, y -> y.part(box, 123, 0));
    }

    private static void whats() {
        for (int what : NO_WHATS) {
            refused("what " + what, INDEX, Scenes::workshop, x -> x.part(Scenes.ROW, 0, what));
            refused("of the last " + what, INDEX, Scenes::workshop,
                    x -> x.part(Scenes.ROW, 1, what));
            Scene withRule = () -> {
                FormulaShapes x = Scenes.workshop();
                x.fraction(TEXT, 0, 1, 2);
                return x;
            };
            refused("of a rule " + what, INDEX, withRule, x -> x.part(Scenes.BOXES, 2, what));
        }
        FormulaShapes x = Scenes.workshop();
        int[] due = {1, 13, 0, 20, 15, 5};
        for (int what = 0; what < 6; what++) {
            same("what " + what, x.part(Scenes.ROW, 1, what), due[what]);
        }
    }

    private static void ruleOfFraction() {
        FormulaShapes x = new FormulaShapes();
        x.box(10, 0, 0);
        int[] due = {NONE, 0, -499, 10, 999, 0};
        int box = x.fraction(TEXT, 0, 0, 999);
        for (int what = 0; what < 6; what++) {
            same("what " + what, x.part(box, 2, what), due[what]);
        }
    }

    private static void ruleOfRoot() {
        FormulaShapes x = new FormulaShapes();
        x.box(10, 4, 3);
        x.box(2, -1000000, 1000000);
        x.sign(0, 1);
        // a is 1000000 - 7: c gets 499997
        int[] due = {NONE, 2, 500001, 10, -1000000, 0};
        int box = x.root(TEXT, 0, 0);
        for (int what = 0; what < 6; what++) {
            same("a height below 0, " + what, x.part(box, 2, what), due[what]);
        }
    }

    private static void ownNumbers() {
        FormulaShapes x = new FormulaShapes();
        x.box(0, -1000000, -1000000);
        int narrow = x.row(0, -5, 0);
        int box = x.row(narrow, 0, narrow);
        lies(x, "below 0", box, narrow, 0, 0, narrow, -5, 0);
        int[] due = {narrow, -5, 0, -5, -1000000, -1000000};
        for (int what = 0; what < 6; what++) {
            same("what " + what, x.part(box, 1, what), due[what]);
        }
    }
}
