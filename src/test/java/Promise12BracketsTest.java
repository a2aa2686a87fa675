/** Boundary cases of promise 12. */
public final class Promise12BracketsTest extends Checks {

    public static void main(String[] args) {
        test("promise 12: there is no such box", Promise12BracketsTest::noSuchBox);
        test("promise 12: left from 0 to 7", Promise12BracketsTest::leftFamilies);
        test("promise 12: right from 0 to 7", Promise12BracketsTest::rightFamilies);
        test("promise 12: styles 0 to 3", Promise12BracketsTest::styles);
        test("promise 12: neither boxes nor pieces", Promise12BracketsTest::neitherBoxesNorPieces);
        test("promise 12: the one named first", Promise12BracketsTest::namedFirst);
        test("promise 12: 120 boxes at most", Promise12BracketsTest::atMost120);
        test("promise 12: 120 boxes with one sign", Promise12BracketsTest::atMost120WithOne);
        test("promise 12: 120 boxes with both signs", Promise12BracketsTest::atMost120WithBoth);
        test("promise 12: m is the greater one", Promise12BracketsTest::greaterSide);
        test("promise 12: m / 500 is cut off first", Promise12BracketsTest::cutOffFirst);
        test("promise 12: 2 m less SHORT", Promise12BracketsTest::lessShort);
        test("promise 12: the least is the greater one", Promise12BracketsTest::greaterLeast);
        test("promise 12: a least below 0 as 0", Promise12BracketsTest::leastBelow0);
        test("promise 12: a least below 0, no sign", Promise12BracketsTest::leastBelow0NoSign);
        test("promise 12: half of odd and below 0", Promise12BracketsTest::onTheAxis);
        test("promise 12: signs that are put together", Promise12BracketsTest::putTogether);
        test("promise 12: height and depth below 0", Promise12BracketsTest::below0);
        test("promise 12: the last part's end", Promise12BracketsTest::lastPartsEnd);
        test("promise 12: the least wraps around", Promise12BracketsTest::leastWrapsAround);
        test("promise 12: m wraps around", Promise12BracketsTest::sidesWrapAround);
        test("promise 12: the width wraps around", Promise12BracketsTest::widthWrapsAround);
        end();
    }

    private static void noSuchBox() {
        for (int box : noBoxes(Scenes.BOXES)) {
            refused("x " + box, INDEX, Scenes::workshop, x -> x.brackets(TEXT, 0, box, 0));
        }
        same("the last box", Scenes.workshop().brackets(TEXT, 0, Scenes.BOXES - 1, 0),
                Scenes.BOXES);
    }

    private static void leftFamilies() {
        for (int f : NO_FAMILIES) {
            refused("left " + f, INDEX, Scenes::workshop, x -> x.brackets(TEXT, f, 0, 0));
        }
    }

    private static void rightFamilies() {
        for (int f : NO_FAMILIES) {
            refused("right " + f, INDEX, Scenes::workshop, x -> x.brackets(TEXT, 0, 0, f));
        }
        FormulaShapes x = new FormulaShapes();
        x.box(1, 2, 3);
        x.sign(7, 0);
        x.sign(0, 0);
        same("0 and 7", x.brackets(TEXT, 0, 0, 7), 1);
        same("7 and 0", x.brackets(TEXT, 7, 0, 0), 2);
    }

    private static void styles() {
        for (int style : NO_STYLES) {
            refused("style " + style, ARGUMENT, Scenes::workshop, x -> x.brackets(style, 0, 0, 0));
            refused("style " + style, ARGUMENT, Scenes::workshop, x -> x.brackets(style, 2, 0, 2));
        }
        FormulaShapes x = new FormulaShapes();
        x.box(1, 0, 0);
        x.sign(0, 0);
        for (int size = 0; size < 3; size++) {
            x.parameter(size, 0, 10 + size);
        }
        int[] due = {10, 10, 11, 12};
        for (int style = DISPLAY; style <= LEAST; style++) {
            lies(x, "style " + style, x.brackets(style, 0, 0, 0), 0, 0, due[style], 0, 1, 0,
                    0, 2, due[style]);
        }
    }

    private static void neitherBoxesNorPieces() {
        int empty = Scenes.EMPTY;
        refused("left", STATE, Scenes::workshop, x -> x.brackets(TEXT, empty, 0, 0));
        refused("right", STATE, Scenes::workshop, x -> x.brackets(TEXT, 0, 0, empty));
        refused("both", STATE, Scenes::workshop, x -> x.brackets(TEXT, empty, 0, empty));
        // The left sign would be put together: it must not stay behind.
        refused("right, left of pieces", STATE, Scenes::workshop,
                x -> x.brackets(TEXT, Scenes.PIECES_ALONE, 0, empty));
        refused("left, right of pieces", STATE, Scenes::workshop,
                x -> x.brackets(TEXT, empty, 0, Scenes.PIECES_ALONE));
    }

    private static void namedFirst() {
        int empty = Scenes.EMPTY;
        refused("left, style", INDEX, Scenes::workshop, x -> x.brackets(4, 8, 0, 0));
        refused("box, style", INDEX, Scenes::workshop, x -> x.brackets(-1, 0, NONE, 0));
        refused("right, style", INDEX, Scenes::workshop, x -> x.brackets(4, 0, 0, -1));
        refused("box, state", INDEX, Scenes::workshop, x -> x.brackets(0, empty, NONE, empty));
        refused("right, state", INDEX, Scenes::workshop, x -> x.brackets(0, empty, 0, 8));
        refused("box, full", INDEX, Scenes::full, x -> x.brackets(0, 0, 120, 0));
        refused("style, left", ARGUMENT, Scenes::workshop, x -> x.brackets(4, empty, 0, 0));
        refused("style, right", ARGUMENT, Scenes::workshop, x -> x.brackets(4, 0, 0, empty));
        refused("style, full", ARGUMENT, Scenes::full, x -> x.brackets(4, 0, 0, 0));
        refused("left, full", STATE, Scenes::full, x -> x.brackets(0, empty, 0, 0));
        refused("right, full", STATE, Scenes::full, x -> x.brackets(0, 0, 0, empty));
        refused("right, full with pieces", STATE, Scenes::full, x -> x.brackets(0, 2, 0, empty));
    }

    private static void atMost120() {
        FormulaShapes x = Scenes.filledTo(119);
        same("the 120th", x.brackets(TEXT, 0, 118, 0), 119);
        thrown("the 121st", UNSUPPORTED, x, y -> y.brackets(TEXT, 0, 118, 0));
        refused("no room", UNSUPPORTED, Scenes::full, y -> y.brackets(TEXT, 0, 0, 0));
    }

    private static void atMost120WithOne() {
        FormulaShapes x = Scenes.filledTo(118);
        same("left", x.brackets(TEXT, Scenes.PIECES_ALONE, 0, 0), 119);
        same("its sign", x.part(119, 0, 0), 118);
        FormulaShapes y = Scenes.filledTo(118);
        same("right", y.brackets(TEXT, 0, 0, Scenes.PIECES_ALONE), 119);
        same("its sign", y.part(119, 2, 0), 118);
        refused("left, one too many", UNSUPPORTED, () -> Scenes.filledTo(119),
                z -> z.brackets(TEXT, Scenes.PIECES_ALONE, 0, 0));
        refused("right, one too many", UNSUPPORTED, () -> Scenes.filledTo(119),
                z -> z.brackets(TEXT, 0, 0, Scenes.PIECES_ALONE));
    }

    private static void atMost120WithBoth() {
        int pieces = Scenes.PIECES_ALONE;
        FormulaShapes x = Scenes.filledTo(117);
        same("three more", x.brackets(TEXT, pieces, 0, pieces), 119);
        same("the left one first", x.part(119, 0, 0), 117);
        same("then the right one", x.part(119, 2, 0), 118);
        for (int boxes = 118; boxes <= 120; boxes++) {
            int count = boxes;
            refused("with " + count, UNSUPPORTED, () -> Scenes.filledTo(count),
                    y -> y.brackets(TEXT, pieces, 0, pieces));
        }
    }

    /** Which of a ladder's boxes is the left sign tells the least. */
    private static void sign(FormulaShapes x, String what, int in, int family, int due) {
        int box = x.brackets(TEXT, family, in, family);
        same(what + ", left", x.part(box, 0, 0), due);
        same(what + ", right", x.part(box, 2, 0), due);
    }

    private static void greaterSide() {
        FormulaShapes x = new FormulaShapes();
        int first = Scenes.ladder(x, 0, 9, 10, 11, 12);
        int in = x.box(10, 7, 3);
        x.parameter(0, 0, 2);
        sign(x, "5 and 5", in, 0, first + 1);
        x.parameter(0, 0, 3);
        sign(x, "4 and 6", in, 0, first + 3);
        x.parameter(0, 0, 1);
        sign(x, "6 and 4", in, 0, first + 3);
    }

    private static void cutOffFirst() {
        FormulaShapes x = new FormulaShapes();
        int first = Scenes.ladder(x, 0, 0, 900, 901, 1802);
        x.set(1, 1000000);
        int[] heights = {0, 499, 500, 501, 999, 1000};
        int[] due = {first, first, first + 2, first + 2, first + 2, first + 3};
        for (int i = 0; i < heights.length; i++) {
            sign(x, heights[i] + " high", x.box(0, heights[i], -1000), 0, due[i]);
            sign(x, heights[i] + " deep", x.box(0, -1000, heights[i]), 0, due[i]);
        }
    }

    private static void lessShort() {
        FormulaShapes x = new FormulaShapes();
        int first = Scenes.ladder(x, 0, 0, 1, 499, 500);
        int in = x.box(0, 250, 0);
        int[] shorts = {0, 1, 2, 498, 499, 500, 501, 1000000};
        int[] due = {3, 2, 2, 2, 1, 0, 0, 0};
        for (int i = 0; i < shorts.length; i++) {
            x.set(1, shorts[i]);
            sign(x, "SHORT " + shorts[i], in, 0, first + due[i]);
        }
    }

    private static void greaterLeast() {
        FormulaShapes x = new FormulaShapes();
        int first = Scenes.ladder(x, 0, 900, 901, 902);
        int in = x.box(0, 500, 0);
        x.set(1, 98);
        sign(x, "902 and 901", in, 0, first + 2);
        x.set(1, 99);
        sign(x, "901 and 901", in, 0, first + 1);
        x.set(1, 100);
        sign(x, "900 and 901", in, 0, first + 1);
    }

    private static void leastBelow0() {
        FormulaShapes x = new FormulaShapes();
        int first = Scenes.ladder(x, 0, -1000, -1, 0, 2);
        int[] heights = {-1000000, -500, -499, -1, 0, 1};
        int[] due = {2, 2, 2, 2, 2, 3};
        for (int i = 0; i < heights.length; i++) {
            sign(x, "m " + heights[i], x.box(0, heights[i], -1000000), 0, first + due[i]);
        }
        int piece = x.box(3, 1, 0);
        x.pieces(1, NONE, NONE, NONE, piece);
        int box = x.brackets(TEXT, 1, x.box(5, -700, -700), 1);
        shape(x, "nothing is put together", x.part(box, 0, 0), 0, 0, 0, 0);
        lies(x, "nothing around it", box, box - 2, 0, 0, piece + 1, 0, 0, box - 1, 5, 0);
    }

    private static void leastBelow0NoSign() {
        Scene scene = () -> {
            FormulaShapes x = Scenes.workshop();
            x.box(1, -1000000, -1000000);
            return x;
        };
        int in = Scenes.BOXES;
        refused("left", STATE, scene, x -> x.brackets(TEXT, Scenes.EMPTY, in, 0));
        refused("right", STATE, scene, x -> x.brackets(TEXT, 0, in, Scenes.EMPTY));
    }

    private static void onTheAxis() {
        FormulaShapes x = new FormulaShapes();
        x.parameter(0, 0, 100);
        int in = x.box(10, 0, 0);
        int[] heights = {7, 6, 2, 3, 1, 0};
        int[] depths = {2, 2, 7, 7, 0, 1};
        // halves of 5, 4, -5, -4, 1, -1
        int[] due = {97, 98, 102, 102, 99, 100};
        for (int i = 0; i < heights.length; i++) {
            int sign = x.box(1, heights[i], depths[i]);
            x.sign(i, sign);
            lies(x, "sign " + i, x.brackets(TEXT, i, in, i), sign, 0, due[i], in, 1, 0,
                    sign, 11, due[i]);
        }
    }

    private static void putTogether() {
        FormulaShapes x = new FormulaShapes();
        x.parameter(0, 0, 2);
        int in = x.box(10, 7, 3);
        x.sign(0, x.box(1, 4, 5));
        x.pieces(0, NONE, NONE, NONE, x.box(6, 2, 1));
        x.sign(1, x.box(2, 5, 5));
        // m is 5, the least 10: four of 3 for the left one
        int box = x.brackets(TEXT, 0, in, 1);
        same("its box", box, 5);
        shape(x, "the left one", 4, 6, 12, 0, 4);
        lies(x, "left of pieces", box, 4, 0, -4, in, 6, 0, 3, 16, 2);
        shape(x, "left of pieces", box, 18, 8, 4, 3);
        box = x.brackets(TEXT, 0, in, 0);
        same("two boxes before it", box, 8);
        lies(x, "both", box, 6, 0, -4, in, 6, 0, 7, 16, -4);
        shape(x, "the right one", 7, 6, 12, 0, 4);
    }

    private static void below0() {
        FormulaShapes x = new FormulaShapes();
        x.parameter(0, 0, -1000);
        x.sign(0, x.box(1, 0, 0));
        x.sign(1, x.box(1, -600, -600));
        int low = x.box(1, -3000, -50);
        // the signs lie at -1000
        shape(x, "height", x.brackets(TEXT, 0, low, 1), 3, -1000, 1000, 3);
        int in = x.box(1, -2000, -900);
        x.parameter(0, 0, 0);
        shape(x, "height and depth", x.brackets(TEXT, 1, in, 1), 3, -600, -600, 3);
        x.parameter(0, 0, -100);
        shape(x, "depth by y", x.brackets(TEXT, 1, in, 1), 3, -700, -500, 3);
        x.parameter(0, 0, 100);
        shape(x, "height by y", x.brackets(TEXT, 1, in, 1), 3, -500, -700, 3);
    }

    private static void lastPartsEnd() {
        FormulaShapes x = new FormulaShapes();
        int dot = x.box(5, 0, 0);
        x.sign(0, dot);
        int narrow = x.row(dot, -100, dot);
        x.sign(1, narrow);
        int box = x.brackets(TEXT, 0, narrow, 0);
        lies(x, "x below 0", box, dot, 0, 0, narrow, 5, 0, dot, -85, 0);
        same("x below 0", x.told(box, 0), -80);
        box = x.brackets(TEXT, 0, dot, 1);
        same("the right one below 0", x.told(box, 0), -80);
        box = x.brackets(TEXT, 1, dot, 0);
        lies(x, "the left one below 0", box, narrow, 0, 0, dot, -90, 0, dot, -85, 0);
        same("the left one below 0", x.told(box, 0), -80);
    }

    private static void leastWrapsAround() {
        FormulaShapes x = new FormulaShapes();
        int middling = Scenes.doubledUp(x, 262144);
        int twoMilliards = Scenes.doubledUp(x, 500000);
        int tall = Scenes.doubledUp(x, 524287);
        int first = Scenes.ladder(x, 0, -1, 0, 1);
        // 2147479552: 901 times its 500th is -425209237, twice it -8192
        sign(x, "both below 0", tall, 0, first + 1);
        Scenes.signs(x, 1, middling, twoMilliards, tall, first);
        // 1073741824: 901 times its 500th is 1934882183, twice it the least int
        sign(x, "SHORT 0", middling, 1, twoMilliards);
        x.set(1, 1);
        // that less 1 is the greatest int: none is so high, so the last one
        sign(x, "SHORT 1", middling, 1, first);
        x.set(1, 4095);
        sign(x, "SHORT 4095", middling, 1, first);
        x.set(1, 4096);
        sign(x, "SHORT 4096", middling, 1, tall);
    }

    private static void sidesWrapAround() {
        FormulaShapes x = new FormulaShapes();
        int deep = Scenes.doubledDown(x, 524287);
        int low = Scenes.doubledUp(x, -524288);
        int first = Scenes.ladder(x, 0, 0, 4097, 1000000);
        x.parameter(0, 0, 4096);
        // d + P(0) is the least int, h - P(0) is -4096
        sign(x, "the depth", deep, 0, first);
        x.parameter(0, 0, 1);
        // h - P(0) is the greatest int: 901 times its 500th is -425202029, twice it -2
        sign(x, "the height", low, 0, first);
    }

    private static void widthWrapsAround() {
        FormulaShapes x = new FormulaShapes();
        int wide = Scenes.doubledWide(x, 524287);
        int sign = x.box(2048, 0, 0);
        x.sign(0, sign);
        int box = x.brackets(TEXT, 0, wide, 0);
        lies(x, "its parts", box, sign, 0, 0, wide, 2048, 0, sign, 2147481600, 0);
        same("its width", x.told(box, 0), LEAST_INT);
    }
}
