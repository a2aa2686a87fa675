/** Boundary cases of promise 8. */
public final class Promise08FractionTest extends Checks {

    private static final int[] NO_THICKS = {LEAST_INT, -1, 1000001, MOST_INT};

    public static void main(String[] args) {
        test("promise 8: there is no such n", Promise08FractionTest::noSuchAbove);
        test("promise 8: there is no such d", Promise08FractionTest::noSuchBelow);
        test("promise 8: styles 0 to 3", Promise08FractionTest::styles);
        test("promise 8: thick from 0 to 1000000", Promise08FractionTest::thicks);
        test("promise 8: the one named first", Promise08FractionTest::namedFirst);
        test("promise 8: 120 boxes at most", Promise08FractionTest::atMost120);
        test("promise 8: a rule for thick above 0", Promise08FractionTest::ruleAbove0);
        test("promise 8: half of an odd thick", Promise08FractionTest::halfOfThick);
        test("promise 8: g above 0 in DISPLAY", Promise08FractionTest::movedInDisplay);
        test("promise 8: g above 0 else", Promise08FractionTest::movedElse);
        test("promise 8: a above 0", Promise08FractionTest::aboveMoved);
        test("promise 8: b above 0", Promise08FractionTest::belowMoved);
        test("promise 8: the greater width", Promise08FractionTest::greaterWidth);
        test("promise 8: heights and depths below 0", Promise08FractionTest::below0);
        test("promise 8: height and depth wrap around", Promise08FractionTest::heightWrapsAround);
        test("promise 8: what must be clear wraps around", Promise08FractionTest::clearWrapsAround);
        test("promise 8: widths wrap around", Promise08FractionTest::widthWrapsAround);
        end();
    }

    private static void noSuchAbove() {
        for (int box : noBoxes(Scenes.BOXES)) {
            refused("n " + box, INDEX, Scenes::workshop, x -> x.fraction(TEXT, box, 0, 0));
            refused("n " + box, INDEX, Scenes::workshop, x -> x.fraction(TEXT, box, 0, 1));
        }
    }

    private static void noSuchBelow() {
        for (int box : noBoxes(Scenes.BOXES)) {
            refused("d " + box, INDEX, Scenes::workshop, x -> x.fraction(TEXT, 0, box, 0));
            refused("d " + box, INDEX, Scenes::workshop, x -> x.fraction(TEXT, 0, box, 1));
        }
    }

    private static void styles() {
        FormulaShapes x = new FormulaShapes();
        x.box(0, 0, 0);
        for (int size = 0; size < 3; size++) {
            int s = 100 * size;
            Scenes.parameters(x, size, 1, s + 10, 2, s + 20, 3, s + 30, 4, s + 40, 5, s + 50);
        }
        int[] bare = {10, -40, 30, -50, 130, -150, 230, -250};
        int[] lined = {10, -40, 20, -50, 120, -150, 220, -250};
        for (int style = DISPLAY; style <= LEAST; style++) {
            lies(x, "bare", x.fraction(style, 0, 0, 0), 0, 0, bare[2 * style], 0, 0,
                    bare[2 * style + 1]);
            lies(x, "lined", x.fraction(style, 0, 0, 1), 0, 0, lined[2 * style], 0, 0,
                    lined[2 * style + 1], NONE, 0, 0);
        }
        for (int style : NO_STYLES) {
            refused("style " + style, ARGUMENT, Scenes::workshop, y -> y.fraction(style, 0, 0, 0));
            refused("style " + style, ARGUMENT, Scenes::workshop, y -> y.fraction(style, 0, 0, 9));
        }
    }

    private static void thicks() {
        for (int thick : NO_THICKS) {
            refused("thick " + thick, ARGUMENT, Scenes::workshop, x -> x.fraction(0, 0, 0, thick));
            refused("thick " + thick, ARGUMENT, Scenes::workshop, x -> x.fraction(3, 0, 0, thick));
        }
        FormulaShapes x = new FormulaShapes();
        x.box(3, 0, 0);
        // e 500000, c 1000000 and 3000000
        shape(x, "the greatest, TEXT", x.fraction(TEXT, 0, 0, 1000000), 3, 1500000, 1500000, 3);
        rule(x, "the greatest, TEXT", 1, 2, 3, 1000000);
        shape(x, "the greatest, DISPLAY", x.fraction(DISPLAY, 0, 0, 1000000), 3, 3500000, 3500000,
                3);
    }

    private static void namedFirst() {
        refused("n, style", INDEX, Scenes::workshop, x -> x.fraction(4, Scenes.BOXES, 0, 0));
        refused("d, style", INDEX, Scenes::workshop, x -> x.fraction(-1, 0, NONE, 0));
        refused("n, thick", INDEX, Scenes::workshop, x -> x.fraction(0, NONE, 0, -1));
        refused("d, thick", INDEX, Scenes::workshop, x -> x.fraction(0, 0, NONE, 1000001));
        refused("n, full", INDEX, Scenes::full, x -> x.fraction(0, 120, 0, 0));
        refused("d, full", INDEX, Scenes::full, x -> x.fraction(0, 0, 120, 0));
        refused("style, full", ARGUMENT, Scenes::full, x -> x.fraction(4, 0, 0, 0));
        refused("thick, full", ARGUMENT, Scenes::full, x -> x.fraction(0, 0, 0, -1));
    }

    private static void atMost120() {
        FormulaShapes x = Scenes.filledTo(119);
        same("the 120th", x.fraction(TEXT, 118, 0, 0), 119);
        thrown("the 121st", UNSUPPORTED, x, y -> y.fraction(TEXT, 118, 0, 0));
        same("the 120th with a rule", Scenes.filledTo(119).fraction(TEXT, 118, 0, 1), 119);
        refused("no room", UNSUPPORTED, Scenes::full, y -> y.fraction(TEXT, 119, 0, 0));
        refused("no room, a rule", UNSUPPORTED, Scenes::full, y -> y.fraction(TEXT, 119, 0, 1));
    }

    private static void ruleAbove0() {
        FormulaShapes x = Scenes.workshop();
        int bare = x.fraction(TEXT, 0, 1, 0);
        same("thick 0", x.told(bare, 3), 2);
        thrown("it has no part 2", INDEX, x, y -> y.part(bare, 2, 0));
        int lined = x.fraction(TEXT, 0, 1, 1);
        same("thick 1", x.told(lined, 3), 3);
        rule(x, "thick 1", lined, 2, 20, 1);
        thrown("it has no part 3", INDEX, x, y -> y.part(lined, 3, 0));
    }

    private static void halfOfThick() {
        FormulaShapes x = new FormulaShapes();
        x.box(4, 0, 0);
        x.parameter(0, 0, 100);
        int[] thicks = {1, 2, 3, 999999, 1000000};
        int[] due = {100, 99, 99, -499899, -499900};
        for (int i = 0; i < thicks.length; i++) {
            int box = x.fraction(TEXT, 0, 0, thicks[i]);
            same("its x", x.part(box, 2, 1), 0);
            same("its y, " + thicks[i], x.part(box, 2, 2), due[i]);
            rule(x, "thick " + thicks[i], box, 2, 4, thicks[i]);
        }
    }

    /** u 10 and v 20 get HALF(h(d) - 30 and seven times P(13)). */
    private static void movedInDisplay() {
        FormulaShapes x = new FormulaShapes();
        Scenes.parameters(x, 0, 1, 10, 4, 20);
        movedBare(x, DISPLAY, 27, 0);
        movedBare(x, DISPLAY, 28, 0);
        movedBare(x, DISPLAY, 29, 0);
        movedBare(x, DISPLAY, 30, 0);
        movedBare(x, DISPLAY, 31, 1);
        movedBare(x, DISPLAY, 32, 1);
        movedBare(x, DISPLAY, 33, 2);
        x.parameter(0, 13, 1);
        movedBare(x, DISPLAY, 23, 0);
        movedBare(x, DISPLAY, 24, 1);
        x.parameter(0, 13, -1);
        movedBare(x, DISPLAY, 37, 0);
        movedBare(x, DISPLAY, 38, 1);
    }

    private static void movedElse() {
        FormulaShapes x = new FormulaShapes();
        for (int size = 0; size < 3; size++) {
            Scenes.parameters(x, size, 3, 10, 5, 20, 13, 1);
        }
        for (int style = TEXT; style <= LEAST; style++) {
            movedBare(x, style, 26, 0);
            movedBare(x, style, 27, 0);
            movedBare(x, style, 28, 1);
            movedBare(x, style, 30, 2);
        }
    }

    private static void movedBare(FormulaShapes x, int style, int height, int due) {
        int n = x.box(0, 5, 0);
        int d = x.box(0, height, 6);
        int box = x.fraction(style, n, d, 0);
        String what = "style " + style + ", " + height + " high";
        lies(x, what, box, n, 0, 10 + due, d, 0, -20 - due);
        shape(x, what, box, 0, 15 + due, 26 + due, 2);
    }

    /** thick 2: a is d(n) - 3 in DISPLAY, d(n) - 7 else. */
    private static void aboveMoved() {
        FormulaShapes x = new FormulaShapes();
        Scenes.parameters(x, 0, 1, 10, 2, 10, 4, 20, 5, 20);
        int[] depths = {2, 3, 4, 6, 7, 8};
        int[] inDisplay = {10, 10, 11, 13, 14, 15};
        int[] inText = {10, 10, 10, 10, 10, 11};
        int d = x.box(0, 0, 0);
        for (int i = 0; i < depths.length; i++) {
            int n = x.box(0, 0, depths[i]);
            lies(x, "DISPLAY " + depths[i], x.fraction(DISPLAY, n, d, 2), n, 0, inDisplay[i],
                    d, 0, -20);
            lies(x, "TEXT " + depths[i], x.fraction(TEXT, n, d, 2), n, 0, inText[i], d, 0, -20);
        }
    }

    /** thick 2: b is h(d) - 13 in DISPLAY, h(d) - 17 else. */
    private static void belowMoved() {
        FormulaShapes x = new FormulaShapes();
        Scenes.parameters(x, 0, 1, 10, 2, 10, 4, 20, 5, 20);
        int[] heights = {12, 13, 14, 16, 17, 18};
        int[] inDisplay = {-20, -20, -21, -23, -24, -25};
        int[] inText = {-20, -20, -20, -20, -20, -21};
        int n = x.box(0, 0, 0);
        for (int i = 0; i < heights.length; i++) {
            int d = x.box(0, heights[i], 0);
            lies(x, "DISPLAY " + heights[i], x.fraction(DISPLAY, n, d, 2), n, 0, 10,
                    d, 0, inDisplay[i]);
            lies(x, "TEXT " + heights[i], x.fraction(TEXT, n, d, 2), n, 0, 10, d, 0, inText[i]);
        }
    }

    private static void greaterWidth() {
        FormulaShapes x = new FormulaShapes();
        for (int w = 10; w <= 13; w++) {
            x.box(w, 0, 0);
        }
        int[] due = {0, 1, 1, 2};
        for (int i = 0; i < 4; i++) {
            int above = x.fraction(TEXT, i, 0, 1);
            lies(x, "n is wider by " + i, above, i, 0, 2, 0, due[i], -2);
            same("its width", x.told(above, 0), 10 + i);
            rule(x, "its rule", above, 2, 10 + i, 1);
            int below = x.fraction(TEXT, 0, i, 0);
            lies(x, "d is wider by " + i, below, 0, due[i], 0, i, 0, 0);
            same("its width", x.told(below, 0), 10 + i);
        }
        int narrow = x.row(0, -25, 0);
        shape(x, "both below 0", x.fraction(TEXT, narrow, narrow, 1), -5, 2, 2, 3);
        shape(x, "one below 0", x.fraction(TEXT, narrow, 0, 0), 10, 0, 0, 2);
    }

    private static void below0() {
        FormulaShapes x = new FormulaShapes();
        Scenes.parameters(x, 0, 1, -10, 4, -20);
        int n = x.box(0, -5, -50);
        int d = x.box(0, -60, -7);
        int box = x.fraction(DISPLAY, n, d, 0);
        shape(x, "all below 0", box, 0, -15, -27, 2);
        lies(x, "all below 0", box, n, 0, -10, d, 0, 20);
    }

    private static void heightWrapsAround() {
        FormulaShapes x = new FormulaShapes();
        int tall = Scenes.doubledUp(x, 524287);
        int deep = Scenes.doubledDown(x, 524287);
        Scenes.parameters(x, 0, 1, 4095, 4, 4095);
        shape(x, "as great as ints are", x.fraction(DISPLAY, tall, deep, 0), 0, MOST_INT, MOST_INT,
                2);
        Scenes.parameters(x, 0, 1, 4096, 4, 4096);
        shape(x, "one more", x.fraction(DISPLAY, tall, deep, 0), 0, LEAST_INT, LEAST_INT, 2);
        shape(x, "one more, with a rule", x.fraction(DISPLAY, tall, deep, 1), 0, LEAST_INT,
                LEAST_INT, 3);
    }

    private static void clearWrapsAround() {
        FormulaShapes x = new FormulaShapes();
        int n = Scenes.doubledDown(x, -524288);
        int d = x.box(0, 0, 0);
        same("n's depth", x.told(n, 2), LEAST_INT);
        x.parameter(0, 0, -10);
        // u - d(n) is the least int: a = 3 - (that + 9)
        int box = x.fraction(DISPLAY, n, d, 1);
        lies(x, "u gets a", box, n, 0, 2147483642, d, 0, -14, NONE, 0, -10);
        shape(x, "u gets a", box, 0, 2147483642, 14, 3);
        // g = HALF(0 - (the least int))
        lies(x, "g is below 0", x.fraction(DISPLAY, n, d, 0), n, 0, 0, d, 0, 0);
        x.parameter(0, 13, -1);
        // g = HALF(-7 - (the least int)) = HALF(2147483641)
        lies(x, "g is above 0", x.fraction(DISPLAY, n, d, 0), n, 0, 1073741821, d, 0, -1073741821);
    }

    private static void widthWrapsAround() {
        FormulaShapes x = new FormulaShapes();
        int wide = Scenes.doubledWide(x, 524287);
        int narrow = Scenes.doubledWide(x, -524288);
        same("wide", x.told(wide, 0), Scenes.TALL);
        same("narrow", x.told(narrow, 0), LEAST_INT);
        // TALL - (the least int) is -4096
        lies(x, "n is wide", x.fraction(TEXT, wide, narrow, 0), wide, 0, 0, narrow, -2048, 0);
        lies(x, "d is wide", x.fraction(TEXT, narrow, wide, 0), narrow, -2048, 0, wide, 0, 0);
    }
}
