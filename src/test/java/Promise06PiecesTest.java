/** Boundary cases of promise 6. */
public final class Promise06PiecesTest extends Checks {

    private static final int EMPTY = Scenes.EMPTY;

    public static void main(String[] args) {
        test("promise 6: families 0 to 7", Promise06PiecesTest::families);
        test("promise 6: there is no such upper one", Promise06PiecesTest::upper);
        test("promise 6: there is no such middle one", Promise06PiecesTest::middle);
        test("promise 6: there is no such lower one", Promise06PiecesTest::lower);
        test("promise 6: the repeated one, NONE too", Promise06PiecesTest::repeated);
        test("promise 6: the repeated one is above 0 high", Promise06PiecesTest::aboveZero);
        test("promise 6: that sum wraps around", Promise06PiecesTest::sumWrapsAround);
        test("promise 6: the index is named first", Promise06PiecesTest::indexFirst);
        test("promise 6: in place of those before", Promise06PiecesTest::inPlaceOfThoseBefore);
        test("promise 6: a refused call leaves those before", Promise06PiecesTest::refusedLeaves);
        test("promise 6: no room is needed", Promise06PiecesTest::needsNoRoom);
        end();
    }

    private static void families() {
        FormulaShapes x = new FormulaShapes();
        x.box(1, 2, 3);
        for (int f = 0; f < 8; f++) {
            x.pieces(f, NONE, NONE, NONE, 0);
            same("family " + f, x.signOf(f, 1), f + 1);
        }
        for (int f : NO_FAMILIES) {
            refused("family " + f, INDEX, Scenes::workshop, y -> y.pieces(f, 0, 0, 0, 0));
        }
    }

    private static void upper() {
        for (int box : noBoxesNorNone(Scenes.BOXES)) {
            refused("box " + box, INDEX, Scenes::workshop, x -> x.pieces(EMPTY, box, 0, 0, 0));
        }
        FormulaShapes x = Scenes.workshop();
        x.pieces(EMPTY, Scenes.BOXES - 1, NONE, NONE, 0);
        lies(x, "the last box", x.signOf(EMPTY, 1), Scenes.BOXES - 1, 0, 5);
    }

    private static void middle() {
        for (int box : noBoxesNorNone(Scenes.BOXES)) {
            refused("box " + box, INDEX, Scenes::workshop, x -> x.pieces(EMPTY, 0, box, 0, 0));
        }
        FormulaShapes x = Scenes.workshop();
        x.pieces(EMPTY, NONE, Scenes.BOXES - 1, NONE, 0);
        lies(x, "the last box", x.signOf(EMPTY, 1), Scenes.BOXES - 1, 0, 5);
    }

    private static void lower() {
        for (int box : noBoxesNorNone(Scenes.BOXES)) {
            refused("box " + box, INDEX, Scenes::workshop, x -> x.pieces(EMPTY, 0, 0, box, 0));
        }
        FormulaShapes x = Scenes.workshop();
        x.pieces(EMPTY, NONE, NONE, Scenes.BOXES - 1, 0);
        lies(x, "the last box", x.signOf(EMPTY, 1), Scenes.BOXES - 1, 0, 5);
    }

    private static void repeated() {
        for (int box : noBoxes(Scenes.BOXES)) {
            refused("box " + box, INDEX, Scenes::workshop, x -> x.pieces(EMPTY, 0, 0, 0, box));
            refused("alone " + box, INDEX, Scenes::workshop,
                    x -> x.pieces(EMPTY, NONE, NONE, NONE, box));
        }
        FormulaShapes x = Scenes.workshop();
        x.pieces(EMPTY, NONE, NONE, NONE, Scenes.BOXES - 1);
        lies(x, "the last box", x.signOf(EMPTY, 1), Scenes.BOXES - 1, 0, 5);
    }

    private static void aboveZero() {
        FormulaShapes x = new FormulaShapes();
        x.box(1, 1, 0);
        x.box(1, 0, 1);
        x.box(1, -1000000, 1000000);
        x.box(1, 1000000, -999999);
        x.box(1, -3, 2);
        for (int box : new int[] {0, 1, 3}) {
            x.pieces(0, NONE, NONE, NONE, box);
            lies(x, "1 high in all", x.signOf(0, 1), box, 0, x.told(box, 2));
        }
        thrown("0 high in all", ARGUMENT, x, y -> y.pieces(1, NONE, NONE, NONE, 2));
        thrown("-1 high in all", ARGUMENT, x, y -> y.pieces(1, NONE, NONE, NONE, 4));
        thrown("so it has none", STATE, x, y -> y.signOf(1, 0));
        refused("0 high in all", ARGUMENT, Scenes::workshop, y -> y.pieces(2, 0, 0, 0, 2));
        refused("-4 high in all", ARGUMENT, Scenes::workshop, y -> y.pieces(2, 0, 0, 0, 4));
        x.pieces(1, 4, 2, 4, 0);
        same("only of the repeated one", x.signOf(1, 0), 8);
    }

    private static void sumWrapsAround() {
        FormulaShapes x = new FormulaShapes();
        int up = Scenes.doubledUp(x, 524287);
        int down = Scenes.doubledDown(x, 524287);
        int great = Scenes.both(x, up, down);
        shape(x, "both great", great, 0, Scenes.TALL, Scenes.TALL, 2);
        thrown("their sum is -8192", ARGUMENT, x, y -> y.pieces(0, NONE, NONE, NONE, great));
        int low = Scenes.both(x, Scenes.doubledUp(x, -524287), Scenes.doubledDown(x, -524287));
        shape(x, "both low", low, 0, -Scenes.TALL, -Scenes.TALL, 2);
        x.pieces(0, NONE, NONE, NONE, low);
        same("their sum is 8192", x.told(x.signOf(0, 1), 1), 8192);
    }

    private static void indexFirst() {
        for (int box : noBoxesNorNone(Scenes.BOXES)) {
            refused("upper " + box, INDEX, Scenes::workshop, x -> x.pieces(2, box, 0, 0, 2));
            refused("middle " + box, INDEX, Scenes::workshop, x -> x.pieces(2, 0, box, 0, 2));
            refused("lower " + box, INDEX, Scenes::workshop, x -> x.pieces(2, 0, 0, box, 2));
        }
        for (int f : NO_FAMILIES) {
            refused("family " + f, INDEX, Scenes::workshop, x -> x.pieces(f, 0, 0, 0, 2));
        }
    }

    private static void inPlaceOfThoseBefore() {
        FormulaShapes x = Scenes.workshop();
        x.pieces(EMPTY, 0, 0, 0, 0);
        same("three of 10, two of 10", x.told(x.signOf(EMPTY, 31), 3), 5);
        x.pieces(EMPTY, NONE, NONE, NONE, 3);
        shape(x, "eleven of 3", x.signOf(EMPTY, 31), 5, 33, 0, 11);
        x.pieces(EMPTY, NONE, 1, NONE, 0);
        shape(x, "20 and two of 10", x.signOf(EMPTY, 31), 20, 40, 0, 3);
    }

    private static void refusedLeaves() {
        FormulaShapes x = Scenes.workshop();
        thrown("no lower one", INDEX, x, y -> y.pieces(2, 1, 1, 9, 0));
        thrown("no repeated one", INDEX, x, y -> y.pieces(2, 1, 1, 1, NONE));
        thrown("too low", ARGUMENT, x, y -> y.pieces(2, 1, 1, 1, 2));
        int box = x.signOf(2, 21);
        shape(x, "10, 3, 10", box, 10, 23, 0, 3);
        lies(x, "10, 3, 10", box, 0, 0, 3, 3, 0, 11, 0, 0, 16);
    }

    private static void needsNoRoom() {
        FormulaShapes x = Scenes.full();
        x.pieces(Scenes.TWO_BOXES, NONE, NONE, NONE, 119);
        same("no box is made", x.boxes(), 120);
        thrown("but it has pieces now", UNSUPPORTED, x, y -> y.signOf(Scenes.TWO_BOXES, 21));
    }
}
