/** Boundary cases of promise 13. */
public final class Promise13RowTest extends Checks {

    private static final int[] NO_GAPS = {LEAST_INT, -1000001, 1000001, MOST_INT};

    public static void main(String[] args) {
        test("promise 13: there is no such a", Promise13RowTest::noSuchFirst);
        test("promise 13: there is no such b", Promise13RowTest::noSuchSecond);
        test("promise 13: gap from -1000000 to 1000000", Promise13RowTest::gaps);
        test("promise 13: the one named first", Promise13RowTest::namedFirst);
        test("promise 13: 120 boxes at most", Promise13RowTest::atMost120);
        test("promise 13: the last part's end", Promise13RowTest::lastPartsEnd);
        test("promise 13: the greatest height and depth", Promise13RowTest::greatest);
        test("promise 13: height and depth below 0", Promise13RowTest::below0);
        test("promise 13: the width wraps around", Promise13RowTest::widthWrapsAround);
        end();
    }

    private static void noSuchFirst() {
        for (int box : noBoxes(Scenes.BOXES)) {
            refused("a " + box, INDEX, Scenes::workshop, x -> x.row(box, 0, 0));
        }
    }

    private static void noSuchSecond() {
        for (int box : noBoxes(Scenes.BOXES)) {
            refused("b " + box, INDEX, Scenes::workshop, x -> x.row(0, 0, box));
        }
        same("the last box", Scenes.workshop().row(Scenes.BOXES - 1, 0, Scenes.BOXES - 1),
                Scenes.BOXES);
    }

    private static void gaps() {
        FormulaShapes x = new FormulaShapes();
        x.box(3, 1, 1);
        int[] gaps = {-1000000, -1, 0, 1, 1000000};
        for (int gap : gaps) {
            int box = x.row(0, gap, 0);
            lies(x, "gap " + gap, box, 0, 0, 0, 0, 3 + gap, 0);
            shape(x, "gap " + gap, box, 6 + gap, 1, 1, 2);
        }
        for (int gap : NO_GAPS) {
            refused("gap " + gap, ARGUMENT, Scenes::workshop, y -> y.row(0, gap, 0));
        }
    }

    private static void namedFirst() {
        for (int gap : NO_GAPS) {
            refused("a, gap " + gap, INDEX, Scenes::workshop, x -> x.row(NONE, gap, 0));
            refused("b, gap " + gap, INDEX, Scenes::workshop, x -> x.row(0, gap, Scenes.BOXES));
            refused("gap, full " + gap, ARGUMENT, Scenes::full, x -> x.row(0, gap, 0));
        }
        refused("a, full", INDEX, Scenes::full, x -> x.row(120, 0, 0));
        refused("b, full", INDEX, Scenes::full, x -> x.row(0, 0, 120));
    }

    private static void atMost120() {
        FormulaShapes x = Scenes.filledTo(119);
        same("the 120th", x.row(118, 0, 118), 119);
        thrown("the 121st", UNSUPPORTED, x, y -> y.row(118, 0, 118));
        refused("no room", UNSUPPORTED, Scenes::full, y -> y.row(119, 0, 119));
    }

    private static void lastPartsEnd() {
        FormulaShapes x = new FormulaShapes();
        x.box(10, 0, 0);
        x.box(4, 0, 0);
        same("b ends before a", x.told(x.row(0, -7, 1), 0), 7);
        same("b ends at 0", x.told(x.row(0, -14, 1), 0), 0);
        same("b ends below 0", x.told(x.row(0, -15, 1), 0), -1);
    }

    private static void greatest() {
        FormulaShapes x = new FormulaShapes();
        x.box(1, 5, 7);
        x.box(1, 6, 6);
        x.box(1, 5, 7);
        shape(x, "b's height, a's depth", x.row(0, 0, 1), 2, 6, 7, 2);
        shape(x, "a's height, b's depth", x.row(1, 0, 0), 2, 6, 7, 2);
        shape(x, "the same", x.row(0, 0, 2), 2, 5, 7, 2);
    }

    private static void below0() {
        FormulaShapes x = new FormulaShapes();
        x.box(1, -5, -7);
        x.box(1, -6, -6);
        shape(x, "a, b", x.row(0, 0, 1), 2, -5, -6, 2);
        shape(x, "b, a", x.row(1, 0, 0), 2, -5, -6, 2);
        int low = x.box(1, -1000000, -1000000);
        shape(x, "the least", x.row(low, 0, low), 2, -1000000, -1000000, 2);
    }

    private static void widthWrapsAround() {
        FormulaShapes x = new FormulaShapes();
        int wide = Scenes.doubledWide(x, 524287);
        int narrow = Scenes.doubledWide(x, -524288);
        int dot = x.box(0, 0, 0);
        same("the greatest int", x.told(x.row(wide, 4095, dot), 0), MOST_INT);
        int box = x.row(wide, 4096, dot);
        same("one more", x.told(box, 0), LEAST_INT);
        same("b's x", x.part(box, 1, 1), LEAST_INT);
        same("the least int", x.told(x.row(narrow, 0, dot), 0), LEAST_INT);
        same("one less", x.told(x.row(narrow, -1, dot), 0), MOST_INT);
        same("twice", x.told(x.row(wide, 0, wide), 0), -8192);
    }
}
