/** Boundary cases of promise 11. */
public final class Promise11LimitsTest extends Checks {

    /** In withLimits(). */
    private static final int B = 0;
    private static final int A = 1;
    private static final int S = 2;

    public static void main(String[] args) {
        test("promise 11: there is no such b", Promise11LimitsTest::noSuchBase);
        test("promise 11: there is no such a", Promise11LimitsTest::noSuchAbove);
        test("promise 11: there is no such s", Promise11LimitsTest::noSuchBelow);
        test("promise 11: styles 0 to 3", Promise11LimitsTest::styles);
        test("promise 11: either may lack", Promise11LimitsTest::eitherMayLack);
        test("promise 11: not both", Promise11LimitsTest::notBoth);
        test("promise 11: the one named first", Promise11LimitsTest::namedFirst);
        test("promise 11: 120 boxes at most", Promise11LimitsTest::atMost120);
        test("promise 11: P(15) if that is more", Promise11LimitsTest::leastAbove);
        test("promise 11: P(16) if that is more", Promise11LimitsTest::leastBelow);
        test("promise 11: the greatest width", Promise11LimitsTest::greatestWidth);
        test("promise 11: below 0", Promise11LimitsTest::below0);
        test("promise 11: P(19) only where one is", Promise11LimitsTest::around);
        test("promise 11: the height wraps around", Promise11LimitsTest::heightWrapsAround);
        test("promise 11: the depth wraps around", Promise11LimitsTest::depthWrapsAround);
        test("promise 11: widths wrap around", Promise11LimitsTest::widthWrapsAround);
        end();
    }

    private static FormulaShapes withLimits() {
        FormulaShapes x = new FormulaShapes();
        x.box(10, 8, 2);
        x.box(4, 3, 1);
        x.box(5, 6, 2);
        return x;
    }

    private static void noSuchBase() {
        for (int box : noBoxes(Scenes.BOXES)) {
            refused("b " + box, INDEX, Scenes::workshop, x -> x.limits(TEXT, box, 0, 0));
        }
    }

    private static void noSuchAbove() {
        for (int box : noBoxesNorNone(Scenes.BOXES)) {
            refused("a " + box, INDEX, Scenes::workshop, x -> x.limits(TEXT, 0, box, 0));
            refused("a alone " + box, INDEX, Scenes::workshop, x -> x.limits(TEXT, 0, box, NONE));
        }
    }

    private static void noSuchBelow() {
        for (int box : noBoxesNorNone(Scenes.BOXES)) {
            refused("s " + box, INDEX, Scenes::workshop, x -> x.limits(TEXT, 0, 0, box));
            refused("s alone " + box, INDEX, Scenes::workshop, x -> x.limits(TEXT, 0, NONE, box));
        }
    }

    private static void styles() {
        for (int style : NO_STYLES) {
            refused("style " + style, ARGUMENT, Scenes::workshop, x -> x.limits(style, 0, 0, 0));
            refused("style " + style, ARGUMENT, Scenes::workshop, x -> x.limits(style, 0, 0, NONE));
        }
        FormulaShapes x = withLimits();
        for (int size = 0; size < 3; size++) {
            Scenes.parameters(x, size, 15, 10 * size, 16, 20 * size, 19, 100 * size);
        }
        int[] up = {9, 9, 19, 29};
        int[] down = {-8, -8, -28, -48};
        int[] around = {0, 0, 100, 200};
        for (int style = DISPLAY; style <= LEAST; style++) {
            int box = x.limits(style, B, A, S);
            lies(x, "style " + style, box, A, 3, up[style], B, 0, 0, S, 3, down[style]);
            shape(x, "style " + style, box, 10, up[style] + 3 + around[style],
                    2 - down[style] + around[style], 3);
        }
    }

    private static void eitherMayLack() {
        FormulaShapes x = withLimits();
        int above = x.limits(TEXT, B, A, NONE);
        shape(x, "above alone", above, 10, 12, 2, 2);
        lies(x, "above alone", above, A, 3, 9, B, 0, 0);
        int below = x.limits(TEXT, B, NONE, S);
        shape(x, "below alone", below, 10, 8, 10, 2);
        lies(x, "below alone", below, B, 0, 0, S, 3, -8);
        int both = x.limits(TEXT, B, A, S);
        shape(x, "both", both, 10, 12, 10, 3);
        lies(x, "both", both, A, 3, 9, B, 0, 0, S, 3, -8);
        thrown("no third part", INDEX, x, y -> y.part(above, 2, 0));
        thrown("no third part", INDEX, x, y -> y.part(below, 2, 0));
        thrown("no fourth part", INDEX, x, y -> y.part(both, 3, 0));
    }

    private static void notBoth() {
        for (int style = DISPLAY; style <= LEAST; style++) {
            int s = style;
            refused("style " + s, ARGUMENT, Scenes::workshop, x -> x.limits(s, 0, NONE, NONE));
        }
    }

    private static void namedFirst() {
        refused("b, style", INDEX, Scenes::workshop, x -> x.limits(4, NONE, 0, 0));
        refused("a, style", INDEX, Scenes::workshop, x -> x.limits(-1, 0, -2, 0));
        refused("s, style", INDEX, Scenes::workshop, x -> x.limits(4, 0, 0, -2));
        refused("b, both lack", INDEX, Scenes::workshop, x -> x.limits(0, NONE, NONE, NONE));
        refused("b, full", INDEX, Scenes::full, x -> x.limits(0, 120, 0, 0));
        refused("a, full", INDEX, Scenes::full, x -> x.limits(0, 0, 120, 0));
        refused("s, full", INDEX, Scenes::full, x -> x.limits(0, 0, 0, 120));
        refused("style, full", ARGUMENT, Scenes::full, x -> x.limits(4, 0, 0, 0));
        refused("both lack, full", ARGUMENT, Scenes::full, x -> x.limits(0, 0, NONE, NONE));
    }

    private static void atMost120() {
        FormulaShapes x = Scenes.filledTo(119);
        same("the 120th", x.limits(TEXT, 118, 118, 118), 119);
        thrown("the 121st", UNSUPPORTED, x, y -> y.limits(TEXT, 118, 118, 118));
        refused("above", UNSUPPORTED, Scenes::full, y -> y.limits(TEXT, 0, 0, NONE));
        refused("below", UNSUPPORTED, Scenes::full, y -> y.limits(TEXT, 0, NONE, 0));
        refused("both", UNSUPPORTED, Scenes::full, y -> y.limits(TEXT, 119, 0, 0));
    }

    /** P(17) - d(a) is 5. */
    private static void leastAbove() {
        FormulaShapes x = withLimits();
        x.parameter(0, 17, 6);
        int[] values = {-1000000, 4, 5, 6, 1000000};
        int[] due = {14, 14, 14, 15, 1000009};
        for (int i = 0; i < values.length; i++) {
            x.parameter(0, 15, values[i]);
            int box = x.limits(TEXT, B, A, NONE);
            lies(x, "P(15) " + values[i], box, A, 3, due[i], B, 0, 0);
            shape(x, "P(15) " + values[i], box, 10, due[i] + 3, 2, 2);
        }
    }

    /** P(18) - h(s) is 4. */
    private static void leastBelow() {
        FormulaShapes x = withLimits();
        x.parameter(0, 18, 10);
        int[] values = {-1000000, 3, 4, 5, 1000000};
        int[] due = {-12, -12, -12, -13, -1000008};
        for (int i = 0; i < values.length; i++) {
            x.parameter(0, 16, values[i]);
            int box = x.limits(TEXT, B, NONE, S);
            lies(x, "P(16) " + values[i], box, B, 0, 0, S, 3, due[i]);
            shape(x, "P(16) " + values[i], box, 10, 8, 2 - due[i], 2);
        }
    }

    private static void greatestWidth() {
        FormulaShapes x = withLimits();
        int wide = x.box(11, 0, 0);
        int wider = x.box(13, 0, 0);
        lies(x, "b", x.limits(TEXT, B, A, S), A, 3, 9, B, 0, 0, S, 3, -8);
        int box = x.limits(TEXT, B, wide, S);
        lies(x, "a", box, wide, 0, 8, B, 1, 0, S, 3, -8);
        same("a", x.told(box, 0), 11);
        box = x.limits(TEXT, B, wide, wider);
        lies(x, "s", box, wide, 1, 8, B, 2, 0, wider, 0, -2);
        same("s", x.told(box, 0), 13);
        int narrow = x.row(B, -40, B);
        int narrower = x.row(B, -45, B);
        box = x.limits(TEXT, narrower, narrow, narrower);
        same("all below 0", x.told(box, 0), -20);
        same("half of 5", x.part(box, 1, 1), 3);
        same("half of 0", x.part(box, 0, 1), 0);
        box = x.limits(TEXT, narrower, narrower, NONE);
        same("a alone, below 0", x.told(box, 0), -25);
        box = x.limits(TEXT, narrower, NONE, narrow);
        same("s alone, below 0", x.told(box, 0), -20);
    }

    private static void below0() {
        FormulaShapes x = new FormulaShapes();
        int b = x.box(0, -8, -2);
        int a = x.box(0, -3, -1);
        int s = x.box(0, -6, -4);
        Scenes.parameters(x, 0, 15, -100, 16, -100, 17, -50, 18, -60);
        // u = -49, v = -54
        int box = x.limits(TEXT, b, a, s);
        lies(x, "they cross", box, a, 0, -58, b, 0, 0, s, 0, 62);
        shape(x, "not the greatest of parts", box, 0, -61, -66, 3);
    }

    private static void around() {
        FormulaShapes x = withLimits();
        for (int v : new int[] {-1000000, 1000000}) {
            x.parameter(0, 19, v);
            shape(x, "above alone", x.limits(TEXT, B, A, NONE), 10, 12 + v, 2, 2);
            shape(x, "below alone", x.limits(TEXT, B, NONE, S), 10, 8, 10 + v, 2);
            shape(x, "both", x.limits(TEXT, B, A, S), 10, 12 + v, 10 + v, 3);
        }
    }

    private static void heightWrapsAround() {
        FormulaShapes x = new FormulaShapes();
        int tall = Scenes.doubledUp(x, 524287);
        int low = Scenes.doubledDown(x, -524288);
        int dot = x.box(0, 0, 0);
        x.parameter(0, 19, 4095);
        same("the greatest int", x.told(x.limits(TEXT, tall, dot, NONE), 1), MOST_INT);
        x.parameter(0, 19, 4096);
        same("one more", x.told(x.limits(TEXT, tall, dot, NONE), 1), LEAST_INT);
        x.parameter(0, 19, 0);
        // 0 - d(a) is the least int again, so P(15) is more
        int box = x.limits(TEXT, dot, low, NONE);
        lies(x, "u is 0", box, low, 0, LEAST_INT, dot, 0, 0);
        shape(x, "u is 0", box, 0, LEAST_INT, 0, 2);
        x.parameter(0, 17, -1);
        // -1 - d(a) is the greatest int
        lies(x, "u is the greatest int", x.limits(TEXT, dot, low, NONE), low, 0, -1, dot, 0, 0);
    }

    private static void depthWrapsAround() {
        FormulaShapes x = new FormulaShapes();
        int deep = Scenes.doubledDown(x, 524287);
        int low = Scenes.doubledUp(x, -524288);
        int dot = x.box(0, 0, 0);
        x.parameter(0, 19, 4095);
        same("the greatest int", x.told(x.limits(TEXT, deep, NONE, dot), 2), MOST_INT);
        x.parameter(0, 19, 4096);
        same("one more", x.told(x.limits(TEXT, deep, NONE, dot), 2), LEAST_INT);
        x.parameter(0, 19, 0);
        // 0 - h(s) is the least int again, so P(16) is more; so is 0 less s's y
        int box = x.limits(TEXT, dot, NONE, low);
        lies(x, "v is 0", box, dot, 0, 0, low, 0, LEAST_INT);
        shape(x, "v is 0", box, 0, 0, LEAST_INT, 2);
        x.parameter(0, 18, -1);
        lies(x, "v is the greatest int", x.limits(TEXT, dot, NONE, low), dot, 0, 0, low, 0, 1);
    }

    private static void widthWrapsAround() {
        FormulaShapes x = new FormulaShapes();
        int wide = Scenes.doubledWide(x, 524287);
        int narrow = Scenes.doubledWide(x, -524288);
        int box = x.limits(TEXT, wide, narrow, narrow);
        same("the greatest", x.told(box, 0), Scenes.TALL);
        lies(x, "half of -4096", box, narrow, -2048, 0, wide, 0, 0, narrow, -2048, 0);
    }
}
