/** Boundary cases of promise 15. */
public final class Promise15ToldTest extends Checks {

    private static final int[] NO_WHATS = {LEAST_INT, -1, 4, 5, MOST_INT};

    public static void main(String[] args) {
        test("promise 15: there is no such box", Promise15ToldTest::noSuchBox);
        test("promise 15: what from 0 to 3", Promise15ToldTest::whats);
        test("promise 15: the first and the last box", Promise15ToldTest::firstAndLast);
        test("promise 15: how many parts, from 0 to 123", Promise15ToldTest::howManyParts);
        test("promise 15: numbers below 0", Promise15ToldTest::below0);
        end();
    }

    private static void noSuchBox() {
        for (int what = 0; what < 4; what++) {
            int w = what;
            refused("nothing there yet", INDEX, FormulaShapes::new, x -> x.told(0, w));
            for (int box : noBoxes(Scenes.BOXES)) {
                refused("box " + box, INDEX, Scenes::workshop, x -> x.told(box, w));
            }
            refused("box 120 of 120", INDEX, Scenes::full, x -> x.told(120, w));
        }
    }

    private static void whats() {
        for (int what : NO_WHATS) {
            refused("what " + what, INDEX, Scenes::workshop, x -> x.told(0, what));
            refused("of a row " + what, INDEX, Scenes::workshop, x -> x.told(Scenes.ROW, what));
            refused("no box either " + what, INDEX, Scenes::workshop, x -> x.told(NONE, what));
        }
        shape(Scenes.workshop(), "a box", 1, 20, 15, 5, 0);
        shape(Scenes.workshop(), "a row", Scenes.ROW, 33, 15, 5, 2);
    }

    private static void firstAndLast() {
        FormulaShapes x = Scenes.full();
        shape(x, "the first", 0, 10, 7, 3, 0);
        shape(x, "the last", 119, 1, 2, 3, 0);
    }

    private static void howManyParts() {
        FormulaShapes x = new FormulaShapes();
        x.box(1, 1, 0);
        x.pieces(0, NONE, NONE, NONE, 0);
        x.pieces(1, 0, 0, 0, 0);
        same("a box", x.told(0, 3), 0);
        same("put together of nothing", x.told(x.signOf(0, 0), 3), 0);
        same("put together of one", x.told(x.signOf(0, 1), 3), 1);
        same("put together of all", x.told(x.signOf(1, 1000), 3), 123);
        same("a fraction", x.told(x.fraction(TEXT, 0, 0, 0), 3), 2);
        same("with a rule", x.told(x.fraction(TEXT, 0, 0, 1), 3), 3);
        same("a root", x.told(x.root(TEXT, 0, 0), 3), 3);
        same("one sign", x.told(x.signs(TEXT, CRAMPED, 0, LETTER, 0, NONE), 3), 2);
        same("two signs", x.told(x.signs(TEXT, CRAMPED, 0, LETTER, 0, 0), 3), 3);
        same("one limit", x.told(x.limits(TEXT, 0, NONE, 0), 3), 2);
        same("two limits", x.told(x.limits(TEXT, 0, 0, 0), 3), 3);
        same("brackets", x.told(x.brackets(TEXT, 0, 0, 0), 3), 3);
        same("a row", x.told(x.row(0, 0, 0), 3), 2);
        same("a centre", x.told(x.centre(TEXT, 0), 3), 1);
    }

    private static void below0() {
        FormulaShapes x = new FormulaShapes();
        x.box(0, -1000000, -1000000);
        shape(x, "a box", 0, 0, -1000000, -1000000, 0);
        shape(x, "a row", x.row(0, -1000000, 0), -1000000, -1000000, -1000000, 2);
    }
}
