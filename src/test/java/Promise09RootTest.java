/** Boundary cases of promise 9. */
public final class Promise09RootTest extends Checks {

    public static void main(String[] args) {
        test("promise 9: there is no such box", Promise09RootTest::noSuchBox);
        test("promise 9: families 0 to 7", Promise09RootTest::families);
        test("promise 9: styles 0 to 3", Promise09RootTest::styles);
        test("promise 9: neither boxes nor pieces", Promise09RootTest::neitherBoxesNorPieces);
        test("promise 9: the one named first", Promise09RootTest::namedFirst);
        test("promise 9: 120 boxes at most", Promise09RootTest::atMost120);
        test("promise 9: 120 boxes with the sign's own", Promise09RootTest::atMost120WithSign);
        test("promise 9: so high at least", Promise09RootTest::soHighAtLeast);
        test("promise 9: a least below 0 as 0", Promise09RootTest::leastBelow0);
        test("promise 9: a least below 0, no sign", Promise09RootTest::leastBelow0NoSign);
        test("promise 9: |P(14)| / 4 in DISPLAY", Promise09RootTest::clearInDisplay);
        test("promise 9: |P(13)| / 4 else", Promise09RootTest::clearElse);
        test("promise 9: a above 0", Promise09RootTest::signTooDeep);
        test("promise 9: the greater depth", Promise09RootTest::greaterDepth);
        test("promise 9: put together", Promise09RootTest::putTogether);
        test("promise 9: put together of nothing", Promise09RootTest::putTogetherOfNothing);
        test("promise 9: the least wraps around", Promise09RootTest::leastWrapsAround);
        test("promise 9: the height wraps around", Promise09RootTest::heightWrapsAround);
        test("promise 9: the width wraps around", Promise09RootTest::widthWrapsAround);
        end();
    }

    private static void noSuchBox() {
        for (int box : noBoxes(Scenes.BOXES)) {
            refused("x " + box, INDEX, Scenes::workshop, x -> x.root(TEXT, box, Scenes.TWO_BOXES));
        }
        same("the last box", Scenes.workshop().root(TEXT, Scenes.BOXES - 1, 0), Scenes.BOXES);
    }

    private static void families() {
        for (int f : NO_FAMILIES) {
            refused("family " + f, INDEX, Scenes::workshop, x -> x.root(TEXT, 0, f));
        }
        FormulaShapes x = new FormulaShapes();
        x.box(1, 2, 3);
        x.sign(7, 0);
        same("the last family", x.root(TEXT, 0, 7), 1);
    }

    private static void styles() {
        for (int style : NO_STYLES) {
            refused("style " + style, ARGUMENT, Scenes::workshop, x -> x.root(style, 0, 0));
            refused("style " + style, ARGUMENT, Scenes::workshop,
                    x -> x.root(style, 0, Scenes.PIECES_ALONE));
        }
        FormulaShapes x = new FormulaShapes();
        x.box(1, 0, 0);
        x.box(1, 1000, 0);
        x.sign(0, 1);
        Scenes.parameters(x, 0, 13, 100, 14, 12);
        Scenes.parameters(x, 1, 13, 200, 14, 16);
        Scenes.parameters(x, 2, 13, 300, 14, 20);
        int[] due = {103, 125, 250, 375};
        for (int style = DISPLAY; style <= LEAST; style++) {
            lies(x, "style " + style, x.root(style, 0, 0), 1, 0, due[style], 0, 1, 0,
                    NONE, 1, due[style]);
        }
    }

    private static void neitherBoxesNorPieces() {
        refused("4", STATE, Scenes::workshop, x -> x.root(TEXT, 0, Scenes.EMPTY));
        refused("7", STATE, Scenes::workshop, x -> x.root(LEAST, 1, 7));
        FormulaShapes x = Scenes.workshop();
        same("boxes alone", x.root(TEXT, 1, Scenes.TWO_BOXES), Scenes.BOXES);
        same("the last, though too low", x.part(Scenes.BOXES, 0, 0), 1);
        same("pieces alone", x.root(TEXT, 0, Scenes.PIECES_ALONE), Scenes.BOXES + 2);
    }

    private static void namedFirst() {
        refused("box, style", INDEX, Scenes::workshop, x -> x.root(4, NONE, 0));
        refused("family, style", INDEX, Scenes::workshop, x -> x.root(-1, 0, 8));
        refused("box, state", INDEX, Scenes::workshop, x -> x.root(0, NONE, Scenes.EMPTY));
        refused("box, full", INDEX, Scenes::full, x -> x.root(0, 120, 0));
        refused("style, state", ARGUMENT, Scenes::workshop, x -> x.root(4, 0, Scenes.EMPTY));
        refused("style, full", ARGUMENT, Scenes::full, x -> x.root(-1, 0, 0));
        refused("state, full", STATE, Scenes::full, x -> x.root(0, 0, Scenes.EMPTY));
    }

    private static void atMost120() {
        FormulaShapes x = Scenes.filledTo(119);
        same("the 120th", x.root(TEXT, 118, Scenes.TWO_BOXES), 119);
        thrown("the 121st", UNSUPPORTED, x, y -> y.root(TEXT, 118, Scenes.TWO_BOXES));
        refused("no room", UNSUPPORTED, Scenes::full, y -> y.root(TEXT, 0, Scenes.TWO_BOXES));
    }

    private static void atMost120WithSign() {
        FormulaShapes x = Scenes.filledTo(118);
        same("the 119th and 120th", x.root(TEXT, 0, Scenes.PIECES_ALONE), 119);
        same("the sign before", x.part(119, 0, 0), 118);
        refused("room for the sign alone", UNSUPPORTED, () -> Scenes.filledTo(119),
                y -> y.root(TEXT, 0, Scenes.PIECES_ALONE));
        refused("room for the sign alone", UNSUPPORTED, () -> Scenes.filledTo(119),
                y -> y.root(TEXT, 1, Scenes.BOX_AND_PIECES));
        refused("no room", UNSUPPORTED, Scenes::full, y -> y.root(TEXT, 0, Scenes.PIECES_ALONE));
    }

    /** The least is h(x) + d(x) + 5 + 4, as c is 4 + 1. */
    private static void soHighAtLeast() {
        FormulaShapes x = new FormulaShapes();
        x.parameter(0, 13, 4);
        int first = Scenes.ladder(x, 0, 20, 21);
        x.pieces(1, NONE, NONE, NONE, x.box(1, 1, 0));
        int[] heights = {10, 11, 12};
        int[] due = {first, first, first + 1};
        for (int i = 0; i < heights.length; i++) {
            int in = x.box(5, heights[i] + 100, -100);
            same("a box for " + heights[i], x.part(x.root(TEXT, in, 0), 0, 0), due[i]);
            int sign = x.part(x.root(TEXT, in, 1), 0, 0);
            same("pieces for " + heights[i], x.told(sign, 1), heights[i] + 9);
        }
    }

    private static void leastBelow0() {
        FormulaShapes x = new FormulaShapes();
        int first = Scenes.ladder(x, 0, -1, 0, 1);
        int[] heights = {-1000000, -2, -1, 0, 1};
        int[] due = {first + 1, first + 1, first + 1, first + 1, first + 2};
        for (int i = 0; i < heights.length; i++) {
            int in = x.box(5, heights[i], 0);
            same("least " + heights[i], x.part(x.root(TEXT, in, 0), 0, 0), due[i]);
        }
    }

    private static void leastBelow0NoSign() {
        Scene scene = () -> {
            FormulaShapes x = Scenes.workshop();
            x.box(1, -1000000, -1000000);
            return x;
        };
        refused("no sign", STATE, scene, x -> x.root(TEXT, Scenes.BOXES, Scenes.EMPTY));
    }

    private static void clearInDisplay() {
        FormulaShapes x = new FormulaShapes();
        x.box(1, 0, 0);
        x.box(1, 1000, 0);
        x.sign(0, 1);
        x.parameter(0, 13, 5);
        int[] values = {0, 3, 4, 7, 8, -3, -4, -7, -8, 1000000, -1000000};
        int[] due = {5, 5, 6, 6, 7, 5, 6, 6, 7, 250005, 250005};
        for (int i = 0; i < values.length; i++) {
            x.parameter(0, 14, values[i]);
            same("P(14) " + values[i], x.part(x.root(DISPLAY, 0, 0), 0, 2), due[i]);
            same("not in TEXT", x.part(x.root(TEXT, 0, 0), 0, 2), 6);
        }
    }

    private static void clearElse() {
        int[] values = {0, 3, 4, 7, 8, -3, -4, -7, -8, 1000000, -1000000};
        int[] due = {0, 3, 5, 8, 10, -3, -3, -6, -6, 1250000, -750000};
        for (int style = TEXT; style <= LEAST; style++) {
            FormulaShapes x = new FormulaShapes();
            x.box(1, 0, 1000000);
            x.box(1, 1000, 0);
            x.sign(0, 1);
            for (int i = 0; i < values.length; i++) {
                x.parameter(Math.max(0, style - 1), 13, values[i]);
                x.parameter(Math.max(0, style - 1), 14, 400);
                same("P(13) " + values[i], x.part(x.root(style, 0, 0), 0, 2), due[i]);
            }
        }
    }

    /** All of x is 10 high; c is 0 at first. */
    private static void signTooDeep() {
        FormulaShapes x = new FormulaShapes();
        x.box(10, 7, 3);
        int[] depths = {9, 10, 11, 12, 13, 14, 15};
        int[] due = {7, 7, 8, 8, 9, 9, 10};
        for (int i = 0; i < depths.length; i++) {
            x.sign(i, x.box(2, 1, depths[i]));
            int sign = x.boxes() - 1;
            int box = x.root(TEXT, 0, i);
            lies(x, "deep " + depths[i], box, sign, 0, due[i], 0, 2, 0, NONE, 2, due[i]);
            rule(x, "deep " + depths[i], box, 2, 10, 1);
            same("its height", x.told(box, 1), due[i] + 2);
        }
    }

    private static void greaterDepth() {
        FormulaShapes x = new FormulaShapes();
        Scenes.parameters(x, 0, 13, -40);
        // c is -40 + 10, so the line is at 70: 30 under x's top
        x.box(1, 100, 50);
        x.sign(0, x.box(2, 30, 119));
        x.sign(1, x.box(2, 30, 120));
        x.sign(2, x.box(2, 30, 121));
        shape(x, "49 and 50", x.root(TEXT, 0, 0), 3, 130, 50, 3);
        shape(x, "50 and 50", x.root(TEXT, 0, 1), 3, 130, 50, 3);
        // a is 1: the line goes up by 1
        shape(x, "moved", x.root(TEXT, 0, 2), 3, 131, 50, 3);
        x.box(1, 50, -20);
        Scenes.parameters(x, 0, 13, 0);
        x.sign(3, x.box(2, 5, 29));
        x.sign(4, x.box(2, 0, 31));
        x.sign(5, x.box(2, 0, 34));
        shape(x, "-20 and -21", x.root(TEXT, 7, 3), 3, 60, -20, 3);
        shape(x, "-20 and -20", x.root(TEXT, 7, 4), 3, 51, -20, 3);
        shape(x, "-20 and -18", x.root(TEXT, 7, 5), 3, 52, -18, 3);
    }

    private static void putTogether() {
        FormulaShapes x = new FormulaShapes();
        x.box(10, 7, 3);
        x.box(2, 3, 1);
        x.pieces(0, NONE, NONE, NONE, 1);
        // three of 4 are 12 for 10: a is 2
        int box = x.root(TEXT, 0, 0);
        shape(x, "its sign", 2, 2, 12, 0, 3);
        lies(x, "12 for 10", box, 2, 0, -4, 0, 2, 0, NONE, 2, 8);
        rule(x, "12 for 10", box, 2, 10, 0);
        shape(x, "12 for 10", box, 12, 8, 4, 3);
        x.box(10, 9, 3);
        box = x.root(TEXT, 4, 0);
        lies(x, "12 for 12", box, 5, 0, -3, 4, 2, 0, NONE, 2, 9);
        shape(x, "12 for 12", box, 12, 9, 3, 3);
        x.box(10, 1000000, 1000000);
        // 60 of 4 are too low: a is below 0
        box = x.root(TEXT, 7, 0);
        lies(x, "60 at most", box, 8, 0, 999760, 7, 2, 0, NONE, 2, 1000000);
        shape(x, "60 at most", box, 12, 1000000, 1000000, 3);
    }

    private static void putTogetherOfNothing() {
        FormulaShapes x = new FormulaShapes();
        x.box(1, -20, 5);
        x.box(3, 1, 0);
        x.pieces(0, NONE, NONE, NONE, 1);
        // the least is -15, so nothing is due: a is 15
        int box = x.root(TEXT, 0, 0);
        shape(x, "its sign", 2, 0, 0, 0, 0);
        lies(x, "root", box, 2, 0, -12, 0, 0, 0, NONE, 0, -12);
        shape(x, "root", box, 1, -12, 12, 3);
    }

    private static void leastWrapsAround() {
        FormulaShapes x = new FormulaShapes();
        int tall = Scenes.doubledUp(x, 524287);
        int first = Scenes.ladder(x, 0, 1, 1000);
        x.parameter(0, 13, 4096);
        // 4096 are over the greatest int: the line is at the least int
        int box = x.root(DISPLAY, tall, 0);
        lies(x, "root", box, first, 0, LEAST_INT, tall, 1, 0, NONE, 1, LEAST_INT);
        shape(x, "root", box, 1, LEAST_INT + 2, 0, 3);
    }

    private static void heightWrapsAround() {
        FormulaShapes x = new FormulaShapes();
        int tall = Scenes.doubledUp(x, 524287);
        x.sign(0, tall);
        int in = x.box(4, 0, 0);
        int box = x.root(TEXT, in, 0);
        shape(x, "twice the sign's height", box, 4, -8192, 0, 3);
        rule(x, "the rule", box, 2, 4, Scenes.TALL);
    }

    private static void widthWrapsAround() {
        FormulaShapes x = new FormulaShapes();
        int wide = Scenes.doubledWide(x, 524287);
        x.sign(0, wide);
        int box = x.root(TEXT, x.box(4096, 0, 0), 0);
        same("its width", x.told(box, 0), LEAST_INT);
        same("x is at", x.part(box, 1, 1), Scenes.TALL);
        same("the rule is at", x.part(box, 2, 1), Scenes.TALL);
    }
}
