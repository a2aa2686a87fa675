/** Boundary cases of promise 5. */
public final class Promise05SignTest extends Checks {

    public static void main(String[] args) {
        test("promise 5: families 0 to 7", Promise05SignTest::families);
        test("promise 5: there is no such box", Promise05SignTest::noSuchBox);
        test("promise 5: up to 4 boxes", Promise05SignTest::upTo4);
        test("promise 5: the index is named first", Promise05SignTest::indexFirst);
        test("promise 5: no room is needed", Promise05SignTest::needsNoRoom);
        test("promise 5: boxes need not grow", Promise05SignTest::needNotGrow);
        end();
    }

    private static void families() {
        FormulaShapes x = new FormulaShapes();
        x.box(1, 2, 3);
        for (int f = 0; f < 8; f++) {
            same("family " + f, x.sign(f, 0), 1);
        }
        for (int f : NO_FAMILIES) {
            refused("family " + f, INDEX, Scenes::workshop, y -> y.sign(f, 0));
        }
    }

    private static void noSuchBox() {
        for (int box : noBoxes(Scenes.BOXES)) {
            refused("box " + box, INDEX, Scenes::workshop, x -> x.sign(Scenes.EMPTY, box));
        }
        refused("box 120 of 120", INDEX, Scenes::full, x -> x.sign(Scenes.EMPTY, 120));
        same("the last box", Scenes.workshop().sign(Scenes.EMPTY, Scenes.BOXES - 1), 1);
        same("the last box of 120", Scenes.full().sign(Scenes.EMPTY, 119), 1);
    }

    private static void upTo4() {
        FormulaShapes x = new FormulaShapes();
        x.box(1, 2, 3);
        for (int f = 7; f >= 0; f--) {
            for (int i = 1; i <= 4; i++) {
                same("how many", x.sign(f, 0), i);
            }
            int family = f;
            thrown("a fifth", UNSUPPORTED, x, y -> y.sign(family, 0));
        }
        refused("a fifth", UNSUPPORTED, Scenes::workshop, y -> y.sign(Scenes.FOUR_BOXES, 2));
        FormulaShapes z = Scenes.workshop();
        same("a third", z.sign(Scenes.TWO_BOXES, 2), 3);
        same("a fourth", z.sign(Scenes.TWO_BOXES, 3), 4);
        same("the fourth is the last", z.signOf(Scenes.TWO_BOXES, 21), 3);
    }

    private static void indexFirst() {
        for (int box : noBoxes(Scenes.BOXES)) {
            refused("box " + box, INDEX, Scenes::workshop, x -> x.sign(Scenes.FOUR_BOXES, box));
        }
    }

    private static void needsNoRoom() {
        FormulaShapes x = Scenes.full();
        same("with 120 boxes", x.sign(Scenes.EMPTY, 119), 1);
        same("no box is made", x.boxes(), 120);
        same("its sign", x.signOf(Scenes.EMPTY, 5), 119);
    }

    private static void needNotGrow() {
        FormulaShapes x = new FormulaShapes();
        Scenes.ladder(x, 0, 30, 20, 20, -10);
        same("the first that is high enough", x.signOf(0, 20), 0);
        same("the last where none is", x.signOf(0, 31), 3);
    }
}
