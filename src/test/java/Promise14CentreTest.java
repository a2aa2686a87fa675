/** Boundary cases of promise 14, with those of HALF. */
public final class Promise14CentreTest extends Checks {

    public static void main(String[] args) {
        test("promise 14: there is no such box", Promise14CentreTest::noSuchBox);
        test("promise 14: styles 0 to 3", Promise14CentreTest::styles);
        test("promise 14: the one named first", Promise14CentreTest::namedFirst);
        test("promise 14: 120 boxes at most", Promise14CentreTest::atMost120);
        test("promise 14: HALF of odd and even numbers", Promise14CentreTest::halves);
        test("promise 14: HALF of numbers below 0", Promise14CentreTest::halvesBelow0);
        test("promise 14: HALF at the ends of the ints", Promise14CentreTest::halvesAtTheEnds);
        test("promise 14: height and depth below 0", Promise14CentreTest::below0);
        test("promise 14: the width is x's", Promise14CentreTest::width);
        test("promise 14: height less depth wraps around", Promise14CentreTest::wrapsAround);
        end();
    }

    private static void noSuchBox() {
        for (int box : noBoxes(Scenes.BOXES)) {
            refused("x " + box, INDEX, Scenes::workshop, x -> x.centre(TEXT, box));
        }
        same("the last box", Scenes.workshop().centre(TEXT, Scenes.BOXES - 1), Scenes.BOXES);
    }

    private static void styles() {
        for (int style : NO_STYLES) {
            refused("style " + style, ARGUMENT, Scenes::workshop, x -> x.centre(style, 0));
        }
        FormulaShapes x = new FormulaShapes();
        x.box(1, 8, 4);
        int[] values = {1000000, -1000000, 0};
        for (int size = 0; size < 3; size++) {
            x.parameter(size, 0, values[size]);
        }
        int[] due = {999998, 999998, -1000002, -2};
        for (int style = DISPLAY; style <= LEAST; style++) {
            int box = x.centre(style, 0);
            lies(x, "style " + style, box, 0, 0, due[style]);
            shape(x, "style " + style, box, 1, due[style] + 8, 4 - due[style], 1);
        }
    }

    private static void namedFirst() {
        for (int style : NO_STYLES) {
            refused("box, style " + style, INDEX, Scenes::workshop, x -> x.centre(style, NONE));
            refused("style, full " + style, ARGUMENT, Scenes::full, x -> x.centre(style, 0));
        }
        refused("box, full", INDEX, Scenes::full, x -> x.centre(TEXT, 120));
    }

    private static void atMost120() {
        FormulaShapes x = Scenes.filledTo(119);
        same("the 120th", x.centre(TEXT, 118), 119);
        thrown("the 121st", UNSUPPORTED, x, y -> y.centre(TEXT, 118));
        refused("no room", UNSUPPORTED, Scenes::full, y -> y.centre(TEXT, 119));
    }

    /** With an axis of 0, y is HALF of the height, below 0. */
    private static void half(FormulaShapes x, int height, int depth, int due) {
        int in = x.box(1, height, depth);
        int box = x.centre(TEXT, in);
        lies(x, "HALF(" + (height - depth) + ")", box, in, 0, -due);
        shape(x, "HALF(" + (height - depth) + ")", box, 1, height - due, depth + due, 1);
    }

    private static void halves() {
        FormulaShapes x = new FormulaShapes();
        half(x, 0, 0, 0);
        half(x, 1, 0, 1);
        half(x, 2, 0, 1);
        half(x, 3, 0, 2);
        half(x, 4, 0, 2);
        half(x, 1000, 995, 3);
        half(x, 1000000, -999999, 1000000);
        half(x, 1000000, -1000000, 1000000);
    }

    private static void halvesBelow0() {
        FormulaShapes x = new FormulaShapes();
        half(x, 0, 1, 0);
        half(x, 0, 2, -1);
        half(x, 0, 3, -1);
        half(x, 0, 4, -2);
        half(x, 0, 5, -2);
        half(x, -3, 0, -1);
        half(x, -1000000, 999999, -999999);
        half(x, -1000000, 1000000, -1000000);
    }

    private static void halvesAtTheEnds() {
        FormulaShapes x = new FormulaShapes();
        int tall = Scenes.doubledUp(x, 524287);
        int tallest = x.limits(TEXT, tall, x.box(0, 4095, 0), NONE);
        same("the greatest int", x.told(tallest, 1), MOST_INT);
        // that and 1 is the least int, whose half is -1073741824
        int box = x.centre(TEXT, tallest);
        lies(x, "of the greatest int", box, tallest, 0, 1073741824);
        shape(x, "of the greatest int", box, 0, -1073741825, -1073741824, 1);
        int low = Scenes.doubledUp(x, -524288);
        box = x.centre(TEXT, low);
        lies(x, "of the least int", box, low, 0, 1073741824);
        shape(x, "of the least int", box, 0, -1073741824, -1073741824, 1);
        int aboveLow = x.limits(TEXT, low, x.box(0, 1, 0), NONE);
        box = x.centre(TEXT, aboveLow);
        lies(x, "of the least int and 1", box, aboveLow, 0, 1073741823);
    }

    private static void below0() {
        FormulaShapes x = new FormulaShapes();
        x.box(1, 8, 4);
        x.box(1, -8, -4);
        x.parameter(0, 0, 100);
        shape(x, "depth", x.centre(TEXT, 0), 1, 106, -94, 1);
        x.parameter(0, 0, -100);
        shape(x, "height", x.centre(TEXT, 0), 1, -94, 106, 1);
        x.parameter(0, 0, 0);
        shape(x, "both", x.centre(TEXT, 1), 1, -6, -6, 1);
    }

    private static void width() {
        FormulaShapes x = new FormulaShapes();
        x.box(0, 1, 1);
        x.box(1000000, 1, 1);
        int narrow = x.row(0, -5, 0);
        same("0", x.told(x.centre(TEXT, 0), 0), 0);
        same("1000000", x.told(x.centre(TEXT, 1), 0), 1000000);
        same("below 0", x.told(x.centre(TEXT, narrow), 0), -5);
    }

    private static void wrapsAround() {
        FormulaShapes x = new FormulaShapes();
        int in = Scenes.both(x, Scenes.doubledUp(x, 524287), Scenes.doubledDown(x, -524288));
        // TALL less the least int is -4096
        int box = x.centre(TEXT, in);
        lies(x, "half of -4096", box, in, 0, 2048);
        shape(x, "half of -4096", box, 0, 2147481600, 2147481600, 1);
    }
}
