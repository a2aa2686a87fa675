/** Boundary cases of promise 4. */
public final class Promise04BoxTest extends Checks {

    private static final int[] NO_WIDTHS = {LEAST_INT, -1, 1000001, MOST_INT};
    private static final int[] NO_HEIGHTS = {LEAST_INT, -1000001, 1000001, MOST_INT};

    public static void main(String[] args) {
        test("promise 4: width from 0 to 1000000", Promise04BoxTest::widths);
        test("promise 4: height from -1000000 to 1000000", Promise04BoxTest::heights);
        test("promise 4: depth from -1000000 to 1000000", Promise04BoxTest::depths);
        test("promise 4: a told box has no parts", Promise04BoxTest::noParts);
        test("promise 4: 120 boxes at most", Promise04BoxTest::atMost120);
        test("promise 4: the argument is named first", Promise04BoxTest::argumentFirst);
        end();
    }

    private static void widths() {
        FormulaShapes x = new FormulaShapes();
        shape(x, "the least", x.box(0, 1, 2), 0, 1, 2, 0);
        shape(x, "the greatest", x.box(1000000, 1, 2), 1000000, 1, 2, 0);
        for (int w : NO_WIDTHS) {
            refused("width " + w, ARGUMENT, Scenes::workshop, y -> y.box(w, 1, 2));
        }
    }

    private static void heights() {
        FormulaShapes x = new FormulaShapes();
        shape(x, "the least", x.box(1, -1000000, 2), 1, -1000000, 2, 0);
        shape(x, "the greatest", x.box(1, 1000000, 2), 1, 1000000, 2, 0);
        for (int h : NO_HEIGHTS) {
            refused("height " + h, ARGUMENT, Scenes::workshop, y -> y.box(1, h, 2));
        }
    }

    private static void depths() {
        FormulaShapes x = new FormulaShapes();
        shape(x, "the least", x.box(1, 2, -1000000), 1, 2, -1000000, 0);
        shape(x, "the greatest", x.box(1, 2, 1000000), 1, 2, 1000000, 0);
        for (int d : NO_HEIGHTS) {
            refused("depth " + d, ARGUMENT, Scenes::workshop, y -> y.box(1, 2, d));
        }
    }

    private static void noParts() {
        refused("part 0", INDEX, Scenes::workshop, x -> x.part(0, 0, 0));
        same("how many", Scenes.workshop().told(0, 3), 0);
    }

    private static void atMost120() {
        FormulaShapes x = new FormulaShapes();
        for (int i = 0; i < 120; i++) {
            same("its number", x.box(i, -i, 2 * i), i);
        }
        thrown("the 121st", UNSUPPORTED, x, y -> y.box(0, 0, 0));
        thrown("again", UNSUPPORTED, x, y -> y.box(0, 0, 0));
        shape(x, "the first", 0, 0, 0, 0, 0);
        shape(x, "the last", 119, 119, -119, 238, 0);
        same("the 120th", Scenes.filledTo(119).box(0, 0, 0), 119);
        refused("no room", UNSUPPORTED, Scenes::full, y -> y.box(0, 0, 0));
    }

    private static void argumentFirst() {
        refused("width", ARGUMENT, Scenes::full, x -> x.box(-1, 0, 0));
        refused("height", ARGUMENT, Scenes::full, x -> x.box(0, 1000001, 0));
        refused("depth", ARGUMENT, Scenes::full, x -> x.box(0, 0, -1000001));
    }
}
