/** Boundary cases of promise 10. */
public final class Promise10SignsTest extends Checks {

    /** In withSigns(). */
    private static final int B = 0;
    private static final int A = 1;
    private static final int S = 2;

    public static void main(String[] args) {
        test("promise 10: there is no such b", Promise10SignsTest::noSuchBase);
        test("promise 10: there is no such a", Promise10SignsTest::noSuchAbove);
        test("promise 10: there is no such s", Promise10SignsTest::noSuchBelow);
        test("promise 10: styles 0 to 3", Promise10SignsTest::styles);
        test("promise 10: either may lack", Promise10SignsTest::eitherMayLack);
        test("promise 10: not both", Promise10SignsTest::notBoth);
        test("promise 10: the one named first", Promise10SignsTest::namedFirst);
        test("promise 10: 120 boxes at most", Promise10SignsTest::atMost120);
        test("promise 10: the size of P(11) and P(12)", Promise10SignsTest::sizeOfDrops);
        test("promise 10: a letter", Promise10SignsTest::letter);
        test("promise 10: c if that is more", Promise10SignsTest::upIfMore);
        test("promise 10: which c", Promise10SignsTest::whichUp);
        test("promise 10: d(a) and |P(14)| / 4 if that is more", Promise10SignsTest::overDepth);
        test("promise 10: P(9) if that is more", Promise10SignsTest::downIfMore);
        test("promise 10: h(s) less |4 P(14)| / 5", Promise10SignsTest::underHeight);
        test("promise 10: P(10) if that is more", Promise10SignsTest::downWithOneAbove);
        test("promise 10: both, c above 0", Promise10SignsTest::tooNear);
        test("promise 10: both, g above 0", Promise10SignsTest::raised);
        test("promise 10: both, g alone does nothing", Promise10SignsTest::notRaised);
        test("promise 10: the greater width and SPACE", Promise10SignsTest::widthAndSpace);
        test("promise 10: the greatest height and depth", Promise10SignsTest::greatest);
        test("promise 10: all below 0", Promise10SignsTest::allBelow0);
        test("promise 10: u wraps around", Promise10SignsTest::upWrapsAround);
        test("promise 10: v wraps around", Promise10SignsTest::downWrapsAround);
        test("promise 10: the width wraps around", Promise10SignsTest::widthWrapsAround);
        end();
    }

    /** In TEXT u is 7 and v is 4 at first, in LEAST 5 and 7. */
    private static FormulaShapes withSigns() {
        FormulaShapes x = new FormulaShapes();
        x.box(10, 8, 2);
        x.box(4, 3, 1);
        x.box(5, 6, 2);
        Scenes.parameters(x, 0, 11, 900, 12, 900);
        Scenes.parameters(x, 1, 11, 1, 12, 2);
        Scenes.parameters(x, 2, 11, 3, 12, 5);
        return x;
    }

    private static void above(FormulaShapes x, String what, int due) {
        int box = x.signs(TEXT, !CRAMPED, B, !LETTER, A, NONE);
        lies(x, what, box, B, 0, 0, A, 10, due);
    }

    private static void below(FormulaShapes x, String what, int due) {
        int box = x.signs(TEXT, !CRAMPED, B, !LETTER, NONE, S);
        lies(x, what, box, B, 0, 0, S, 10, -due);
    }

    private static void both(FormulaShapes x, String what, int s, int up, int down) {
        int box = x.signs(TEXT, !CRAMPED, B, !LETTER, A, s);
        lies(x, what, box, B, 0, 0, A, 10, up, s, 10, -down);
    }

    private static void noSuchBase() {
        for (int box : noBoxes(Scenes.BOXES)) {
            refused("b " + box, INDEX, Scenes::workshop,
                    x -> x.signs(TEXT, CRAMPED, box, LETTER, 0, 0));
        }
    }

    private static void noSuchAbove() {
        for (int box : noBoxesNorNone(Scenes.BOXES)) {
            refused("a " + box, INDEX, Scenes::workshop,
                    x -> x.signs(TEXT, CRAMPED, 0, LETTER, box, 0));
            refused("a alone " + box, INDEX, Scenes::workshop,
                    x -> x.signs(TEXT, CRAMPED, 0, LETTER, box, NONE));
        }
    }

    private static void noSuchBelow() {
        for (int box : noBoxesNorNone(Scenes.BOXES)) {
            refused("s " + box, INDEX, Scenes::workshop,
                    x -> x.signs(TEXT, CRAMPED, 0, LETTER, 0, box));
            refused("s alone " + box, INDEX, Scenes::workshop,
                    x -> x.signs(TEXT, CRAMPED, 0, LETTER, NONE, box));
        }
    }

    private static void styles() {
        for (int style : NO_STYLES) {
            refused("style " + style, ARGUMENT, Scenes::workshop,
                    x -> x.signs(style, CRAMPED, 0, LETTER, 0, 0));
            refused("style " + style, ARGUMENT, Scenes::workshop,
                    x -> x.signs(style, !CRAMPED, 0, !LETTER, NONE, 0));
        }
        FormulaShapes x = withSigns();
        for (int style = DISPLAY; style <= LEAST; style++) {
            same("style " + style, x.signs(style, CRAMPED, B, LETTER, A, S), 3 + style);
        }
    }

    private static void eitherMayLack() {
        FormulaShapes x = withSigns();
        int above = x.signs(TEXT, !CRAMPED, B, !LETTER, A, NONE);
        shape(x, "above alone", above, 14, 10, 2, 2);
        lies(x, "above alone", above, B, 0, 0, A, 10, 7);
        int below = x.signs(TEXT, !CRAMPED, B, !LETTER, NONE, S);
        shape(x, "below alone", below, 15, 8, 8, 2);
        lies(x, "below alone", below, B, 0, 0, S, 10, -6);
        int both = x.signs(TEXT, !CRAMPED, B, !LETTER, A, S);
        shape(x, "both", both, 15, 10, 6, 3);
        lies(x, "both", both, B, 0, 0, A, 10, 7, S, 10, -4);
        thrown("no third part", INDEX, x, y -> y.part(above, 2, 0));
        thrown("no third part", INDEX, x, y -> y.part(below, 2, 0));
        thrown("no fourth part", INDEX, x, y -> y.part(both, 3, 0));
    }

    private static void notBoth() {
        for (int style = DISPLAY; style <= LEAST; style++) {
            int s = style;
            refused("style " + s, ARGUMENT, Scenes::workshop,
                    x -> x.signs(s, !CRAMPED, 0, !LETTER, NONE, NONE));
            refused("cramped letter", ARGUMENT, Scenes::workshop,
                    x -> x.signs(s, CRAMPED, 0, LETTER, NONE, NONE));
        }
    }

    private static void namedFirst() {
        refused("b, style", INDEX, Scenes::workshop, x -> x.signs(4, CRAMPED, NONE, LETTER, 0, 0));
        refused("a, style", INDEX, Scenes::workshop, x -> x.signs(-1, CRAMPED, 0, LETTER, -2, 0));
        refused("s, style", INDEX, Scenes::workshop, x -> x.signs(4, CRAMPED, 0, LETTER, 0, -2));
        refused("b, both lack", INDEX, Scenes::workshop,
                x -> x.signs(0, CRAMPED, Scenes.BOXES, LETTER, NONE, NONE));
        refused("b, full", INDEX, Scenes::full, x -> x.signs(0, CRAMPED, 120, LETTER, 0, 0));
        refused("a, full", INDEX, Scenes::full, x -> x.signs(0, CRAMPED, 0, LETTER, 120, 0));
        refused("s, full", INDEX, Scenes::full, x -> x.signs(0, CRAMPED, 0, LETTER, 0, 120));
        refused("style, full", ARGUMENT, Scenes::full, x -> x.signs(4, CRAMPED, 0, LETTER, 0, 0));
        refused("both lack, full", ARGUMENT, Scenes::full,
                x -> x.signs(0, CRAMPED, 0, LETTER, NONE, NONE));
    }

    private static void atMost120() {
        FormulaShapes x = Scenes.filledTo(119);
        same("the 120th", x.signs(TEXT, CRAMPED, 118, LETTER, 118, 118), 119);
        thrown("the 121st", UNSUPPORTED, x, y -> y.signs(TEXT, CRAMPED, 118, LETTER, 118, 118));
        refused("above", UNSUPPORTED, Scenes::full, y -> y.signs(0, CRAMPED, 0, LETTER, 0, NONE));
        refused("below", UNSUPPORTED, Scenes::full, y -> y.signs(0, CRAMPED, 0, LETTER, NONE, 0));
        refused("both", UNSUPPORTED, Scenes::full, y -> y.signs(0, CRAMPED, 0, LETTER, 119, 0));
    }

    private static void sizeOfDrops() {
        FormulaShapes x = withSigns();
        int flat = x.box(0, 0, 0);
        int[] up = {7, 7, 5, 5};
        int[] down = {4, 4, 7, 7};
        for (int style = DISPLAY; style <= LEAST; style++) {
            lies(x, "above", x.signs(style, !CRAMPED, B, !LETTER, A, NONE),
                    B, 0, 0, A, 10, up[style]);
            lies(x, "below", x.signs(style, !CRAMPED, B, !LETTER, NONE, flat),
                    B, 0, 0, flat, 10, -down[style]);
        }
    }

    private static void letter() {
        FormulaShapes x = withSigns();
        int low = x.box(0, -50, -50);
        Scenes.parameters(x, 0, 7, -5, 9, -5, 10, -5);
        lies(x, "0 above", x.signs(TEXT, !CRAMPED, B, LETTER, low, NONE), B, 0, 0, low, 10, 0);
        lies(x, "0 below", x.signs(TEXT, !CRAMPED, B, LETTER, NONE, low), B, 0, 0, low, 10, 0);
        lies(x, "0 both", x.signs(TEXT, !CRAMPED, B, LETTER, low, low),
                B, 0, 0, low, 10, 0, low, 10, 0);
        lies(x, "no letter", x.signs(TEXT, !CRAMPED, B, !LETTER, low, low),
                B, 0, 0, low, 10, 7, low, 10, -4);
    }

    private static void upIfMore() {
        FormulaShapes x = withSigns();
        for (int v : new int[] {-1000000, 0, 6, 7}) {
            x.parameter(0, 7, v);
            above(x, "P(7) " + v, 7);
        }
        x.parameter(0, 7, 8);
        above(x, "P(7) 8", 8);
        x.parameter(0, 7, 1000000);
        above(x, "P(7) 1000000", 1000000);
        both(x, "with one below too", S, 1000000, 4);
    }

    private static void whichUp() {
        FormulaShapes x = withSigns();
        for (int size = 0; size < 3; size++) {
            int s = 100 * size;
            Scenes.parameters(x, size, 6, s + 20, 7, s + 30, 8, s + 40);
        }
        int[] free = {20, 30, 130, 230};
        int[] cramped = {40, 40, 140, 240};
        for (int style = DISPLAY; style <= LEAST; style++) {
            lies(x, "style " + style, x.signs(style, !CRAMPED, B, LETTER, A, NONE),
                    B, 0, 0, A, 10, free[style]);
            lies(x, "cramped " + style, x.signs(style, CRAMPED, B, LETTER, A, NONE),
                    B, 0, 0, A, 10, cramped[style]);
        }
    }

    private static void overDepth() {
        FormulaShapes x = withSigns();
        int[] values = {0, 24, 27, 28, 31, 32, -27, -28, -31, -32};
        int[] due = {7, 7, 7, 8, 8, 9, 7, 8, 8, 9};
        for (int i = 0; i < values.length; i++) {
            x.parameter(0, 14, values[i]);
            above(x, "P(14) " + values[i], due[i]);
        }
    }

    private static void downIfMore() {
        FormulaShapes x = withSigns();
        x.parameter(0, 14, 1000);
        x.parameter(0, 10, 1000000);
        for (int v : new int[] {-1000000, 0, 3, 4}) {
            x.parameter(0, 9, v);
            below(x, "P(9) " + v, 4);
        }
        x.parameter(0, 9, 5);
        below(x, "P(9) 5", 5);
        x.parameter(0, 9, 1000000);
        below(x, "P(9) 1000000", 1000000);
    }

    private static void underHeight() {
        FormulaShapes x = withSigns();
        int[] values = {0, 1, 2, 3, 4, -1, -2, -3, -1000000};
        int[] due = {6, 6, 5, 4, 4, 6, 5, 4, 4};
        for (int i = 0; i < values.length; i++) {
            x.parameter(0, 14, values[i]);
            below(x, "P(14) " + values[i], due[i]);
        }
    }

    private static void downWithOneAbove() {
        FormulaShapes x = withSigns();
        x.parameter(0, 9, 1000000);
        for (int v : new int[] {-1000000, 0, 3, 4}) {
            x.parameter(0, 10, v);
            both(x, "P(10) " + v, S, 7, 4);
        }
        x.parameter(0, 10, 5);
        both(x, "P(10) 5", S, 7, 5);
        x.parameter(0, 10, 1000000);
        both(x, "P(10) 1000000", S, 7, 1000000);
    }

    /** u - d(a) is 6, v is 4: c is 4 P(13) and h(s) less 10. */
    private static void tooNear() {
        FormulaShapes x = withSigns();
        int[] heights = {9, 10, 11, 12};
        int[] due = {4, 4, 5, 6};
        for (int i = 0; i < heights.length; i++) {
            both(x, "P(13) 0", x.box(1, heights[i], 0), 7, due[i]);
        }
        x.parameter(0, 13, 1);
        for (int i = 0; i < heights.length; i++) {
            both(x, "P(13) 1", x.box(1, heights[i] - 4, 0), 7, due[i]);
        }
        x.parameter(0, 13, -1);
        for (int i = 0; i < heights.length; i++) {
            both(x, "P(13) -1", x.box(1, heights[i] + 4, 0), 7, due[i]);
        }
    }

    /** c is 1, so v is 5; |4 P(14)| / 5 is 5, 6, 7, 8, which makes g -1, 0, 1, 2. */
    private static void raised() {
        FormulaShapes x = withSigns();
        int s = x.box(1, 11, 0);
        int[] values = {7, 8, 9, 10};
        int[] up = {7, 7, 8, 9};
        int[] down = {5, 5, 4, 3};
        for (int i = 0; i < values.length; i++) {
            x.parameter(0, 14, values[i]);
            both(x, "P(14) " + values[i], s, up[i], down[i]);
            x.parameter(0, 14, -values[i]);
            both(x, "P(14) -" + values[i], s, up[i], down[i]);
        }
    }

    private static void notRaised() {
        FormulaShapes x = withSigns();
        x.parameter(0, 14, 10);
        both(x, "c is 0", x.box(1, 10, 0), 7, 4);
        both(x, "c is below 0", x.box(1, -10, 0), 7, 4);
    }

    private static void widthAndSpace() {
        FormulaShapes x = withSigns();
        int wide = x.box(6, 0, 0);
        x.set(0, 1);
        same("a's", x.told(x.signs(TEXT, CRAMPED, B, LETTER, A, NONE), 0), 15);
        same("s's", x.told(x.signs(TEXT, CRAMPED, B, LETTER, NONE, S), 0), 16);
        same("s is wider", x.told(x.signs(TEXT, CRAMPED, B, LETTER, A, S), 0), 16);
        same("a is wider", x.told(x.signs(TEXT, CRAMPED, B, LETTER, wide, S), 0), 17);
        x.set(0, 1000000);
        same("SPACE at most", x.told(x.signs(TEXT, CRAMPED, B, LETTER, wide, S), 0), 1000016);
        x.set(0, 0);
        same("SPACE at least", x.told(x.signs(TEXT, CRAMPED, B, LETTER, wide, S), 0), 16);
        int narrow = x.row(A, -20, A);
        same("below 0", x.told(x.signs(TEXT, CRAMPED, B, LETTER, narrow, narrow), 0), -2);
        same("one below 0", x.told(x.signs(TEXT, CRAMPED, B, LETTER, narrow, S), 0), 15);
    }

    private static void greatest() {
        FormulaShapes x = withSigns();
        int[] heights = {0, 1, 2};
        int[] due = {8, 8, 9};
        for (int i = 0; i < 3; i++) {
            int a = x.box(0, heights[i], 0);
            same("u and h(a)", x.told(x.signs(TEXT, CRAMPED, B, !LETTER, a, S), 1), due[i]);
        }
        // |4 P(14)| / 5 is more than any h(s), so v stays 4
        x.parameter(0, 14, 1000);
        int[] high = {11, 12, 13};
        for (int i = 0; i < 3; i++) {
            int s = x.box(0, high[i], 0);
            same("h(s) less v", x.told(x.signs(TEXT, CRAMPED, B, !LETTER, NONE, s), 1), due[i]);
        }
        int[] deep = {-3, -2, -1};
        int[] dueDepth = {2, 2, 3};
        for (int i = 0; i < 3; i++) {
            int s = x.box(0, 0, deep[i]);
            same("v and d(s)", x.told(x.signs(TEXT, CRAMPED, B, !LETTER, NONE, s), 2), dueDepth[i]);
        }
        x.parameter(0, 14, 0);
        x.parameter(0, 8, -1000000);
        int shallow = x.box(0, 0, -20);
        int a = x.box(0, 0, 30);
        // u is 30 for a's depth: d(a) - u is 0
        same("d(a) less u", x.told(x.signs(TEXT, CRAMPED, shallow, LETTER, a, NONE), 2), 0);
    }

    private static void allBelow0() {
        FormulaShapes x = new FormulaShapes();
        int b = x.box(1, -5, -6);
        int a = x.box(1, -9, -9);
        int s = x.box(1, -8, -7);
        shape(x, "above", x.signs(TEXT, CRAMPED, b, LETTER, a, NONE), 2, -5, -6, 2);
        shape(x, "below", x.signs(TEXT, CRAMPED, b, LETTER, NONE, s), 2, -5, -6, 2);
        shape(x, "both", x.signs(TEXT, CRAMPED, b, LETTER, a, s), 2, -5, -6, 3);
        int lower = x.box(1, -50, -60);
        shape(x, "a is the highest", x.signs(TEXT, CRAMPED, lower, LETTER, a, NONE), 2, -9, -9, 2);
        shape(x, "s is the highest", x.signs(TEXT, CRAMPED, lower, LETTER, NONE, s), 2, -8, -7, 2);
        shape(x, "a and s", x.signs(TEXT, CRAMPED, lower, LETTER, a, s), 2, -8, -7, 3);
    }

    private static void upWrapsAround() {
        FormulaShapes x = new FormulaShapes();
        int low = Scenes.doubledUp(x, -524288);
        int a = x.box(1, 1, 0);
        x.parameter(1, 11, 1);
        int box = x.signs(TEXT, !CRAMPED, low, !LETTER, a, NONE);
        lies(x, "u is the greatest int", box, low, 0, 0, a, 0, MOST_INT);
        shape(x, "its height is the least", box, 1, LEAST_INT, 0, 2);
    }

    private static void downWrapsAround() {
        FormulaShapes x = new FormulaShapes();
        int deep = Scenes.doubledDown(x, 524287);
        int s = x.box(1, 0, 0);
        x.parameter(1, 12, 4095);
        lies(x, "v is the greatest int", x.signs(TEXT, !CRAMPED, deep, !LETTER, NONE, s),
                deep, 0, 0, s, 0, -MOST_INT);
        x.parameter(1, 12, 4096);
        lies(x, "v was the least int", x.signs(TEXT, !CRAMPED, deep, !LETTER, NONE, s),
                deep, 0, 0, s, 0, 0);
        // c = 0 - ((0 - d(a)) - (0 - 0)) is the least int, not above 0
        int a = Scenes.doubledDown(x, -524288);
        lies(x, "c is the least int", x.signs(TEXT, !CRAMPED, s, LETTER, a, s),
                s, 0, 0, a, 1, 0, s, 1, 0);
        x.parameter(0, 13, -1);
        // c = -4 - (the least int) is 2147483644; g is the least int
        lies(x, "c is above 0", x.signs(TEXT, !CRAMPED, s, LETTER, a, s),
                s, 0, 0, a, 1, 0, s, 1, -2147483644);
    }

    private static void widthWrapsAround() {
        FormulaShapes x = new FormulaShapes();
        int wide = Scenes.doubledWide(x, 524287);
        int a = x.box(95, 0, 0);
        x.set(0, 4000);
        same("greatest int", x.told(x.signs(TEXT, CRAMPED, wide, LETTER, a, NONE), 0), MOST_INT);
        x.set(0, 4001);
        same("one more", x.told(x.signs(TEXT, CRAMPED, wide, LETTER, NONE, a), 0), LEAST_INT);
        same("one more, both", x.told(x.signs(TEXT, CRAMPED, wide, LETTER, a, a), 0), LEAST_INT);
    }
}
