/** For each promise ordinary inputs, the edges that the document names, and wrong inputs. */
public final class PromisesTest extends Checks {

    public static void main(String[] args) {
        test("promise 1: new object", PromisesTest::promise1NewObject);
        test("promise 2: parameter", PromisesTest::promise2Parameter);
        test("promise 3: set", PromisesTest::promise3Set);
        test("promise 4: box", PromisesTest::promise4Box);
        test("promise 5: sign", PromisesTest::promise5Sign);
        test("promise 6: pieces", PromisesTest::promise6Pieces);
        test("promise 7: signOf", PromisesTest::promise7SignOf);
        test("promise 7: put together", PromisesTest::promise7PutTogether);
        test("promise 8: fraction with line", PromisesTest::promise8FractionWithLine);
        test("promise 8: fraction bare", PromisesTest::promise8FractionBare);
        test("promise 8: wrong", PromisesTest::promise8Wrong);
        test("promise 9: root", PromisesTest::promise9Root);
        test("promise 9: root put together", PromisesTest::promise9RootPutTogether);
        test("promise 9: wrong", PromisesTest::promise9Wrong);
        test("promise 10: signs above", PromisesTest::promise10SignsAbove);
        test("promise 10: signs below", PromisesTest::promise10SignsBelow);
        test("promise 10: signs both", PromisesTest::promise10SignsBoth);
        test("promise 10: wrong", PromisesTest::promise10Wrong);
        test("promise 11: limits", PromisesTest::promise11Limits);
        test("promise 11: wrong", PromisesTest::promise11Wrong);
        test("promise 12: brackets", PromisesTest::promise12Brackets);
        test("promise 12: wrong", PromisesTest::promise12Wrong);
        test("promise 13: row", PromisesTest::promise13Row);
        test("promise 14: centre", PromisesTest::promise14Centre);
        test("promise 15: told", PromisesTest::promise15Told);
        test("promise 16: part", PromisesTest::promise16Part);
        test("promise 17: boxes", PromisesTest::promise17Boxes);
        test("numbers wrap around", PromisesTest::numbersWrapAround);
        end();
    }

    private static FormulaShapes full() {
        FormulaShapes x = new FormulaShapes();
        for (int i = 0; i < 120; i++) {
            same("box() while there is room", x.box(1, 2, 3), i);
        }
        return x;
    }

    private static void promise1NewObject() {
        FormulaShapes x = new FormulaShapes();
        same("NONE", NONE, -1);
        same("boxes() of a new object", x.boxes(), 0);
        for (int size = 0; size < 3; size++) {
            for (int k = 0; k < 21; k++) {
                same("a new parameter", x.parameter(size, k, 1), 0);
            }
        }
        for (int f = 0; f < 8; f++) {
            int family = f;
            thrown("a new family's sign", STATE, x, y -> y.signOf(family, 0));
        }
        same("SPACE at first", x.set(0, 0), 0);
        same("SHORT at first", x.set(1, 0), 0);
    }

    private static void promise2Parameter() {
        FormulaShapes x = new FormulaShapes();
        for (int i = 0; i < 63; i++) {
            same("a first value", x.parameter(i / 21, i % 21, 1000 + i), 0);
        }
        for (int i = 0; i < 63; i++) {
            same("what it was", x.parameter(i / 21, i % 21, -1000000), 1000 + i);
        }
        same("the least value", x.parameter(2, 20, 1000000), -1000000);
        same("the greatest value", x.parameter(2, 20, 0), 1000000);
        thrown("size -1", INDEX, x, y -> y.parameter(-1, 0, 0));
        thrown("size 3", INDEX, x, y -> y.parameter(3, 0, 0));
        thrown("k -1", INDEX, x, y -> y.parameter(0, -1, 0));
        thrown("k 21", INDEX, x, y -> y.parameter(0, 21, 0));
        thrown("k before v", INDEX, x, y -> y.parameter(0, 21, 1000001));
        thrown("v too great", ARGUMENT, x, y -> y.parameter(2, 20, 1000001));
        thrown("v too small", ARGUMENT, x, y -> y.parameter(2, 20, -1000001));
        same("nothing was changed", x.parameter(2, 20, 0), 0);
    }

    private static void promise3Set() {
        FormulaShapes x = new FormulaShapes();
        same("SPACE", x.set(0, 1000000), 0);
        same("SHORT", x.set(1, 7), 0);
        thrown("what -1", INDEX, x, y -> y.set(-1, 0));
        thrown("what 2", INDEX, x, y -> y.set(2, -1));
        thrown("v below 0", ARGUMENT, x, y -> y.set(0, -1));
        thrown("v too great", ARGUMENT, x, y -> y.set(1, 1000001));
        same("SPACE was", x.set(0, 0), 1000000);
        same("SHORT was", x.set(1, 0), 7);
    }

    private static void promise4Box() {
        FormulaShapes x = new FormulaShapes();
        same("first", x.box(0, -1000000, -1000000), 0);
        same("second", x.box(1000000, 1000000, 1000000), 1);
        shape(x, "first", 0, 0, -1000000, -1000000, 0);
        shape(x, "second", 1, 1000000, 1000000, 1000000, 0);
        thrown("width -1", ARGUMENT, x, y -> y.box(-1, 0, 0));
        thrown("width", ARGUMENT, x, y -> y.box(1000001, 0, 0));
        thrown("height", ARGUMENT, x, y -> y.box(0, 1000001, 0));
        thrown("height below", ARGUMENT, x, y -> y.box(0, -1000001, 0));
        thrown("depth", ARGUMENT, x, y -> y.box(0, 0, 1000001));
        thrown("depth below", ARGUMENT, x, y -> y.box(0, 0, -1000001));
        FormulaShapes f = full();
        thrown("no room", UNSUPPORTED, f, y -> y.box(0, 0, 0));
        thrown("argument before room", ARGUMENT, f, y -> y.box(-1, 0, 0));
    }

    private static void promise5Sign() {
        FormulaShapes x = new FormulaShapes();
        x.box(1, 2, 3);
        thrown("family 8", INDEX, x, y -> y.sign(8, 0));
        thrown("family -1", INDEX, x, y -> y.sign(-1, 0));
        thrown("box 1", INDEX, x, y -> y.sign(0, 1));
        thrown("box -1", INDEX, x, y -> y.sign(0, NONE));
        for (int i = 1; i <= 4; i++) {
            same("how many", x.sign(7, 0), i);
        }
        same("another family", x.sign(6, 0), 1);
        thrown("a fifth", UNSUPPORTED, x, y -> y.sign(7, 0));
        thrown("index first", INDEX, x, y -> y.sign(7, 1));
    }

    private static void promise6Pieces() {
        FormulaShapes x = new FormulaShapes();
        x.box(1, 10, 0);
        x.box(1, 5, -5);
        x.box(1, 0, 1);
        thrown("family 8", INDEX, x, y -> y.pieces(8, NONE, NONE, NONE, 0));
        thrown("family -1", INDEX, x, y -> y.pieces(-1, NONE, NONE, NONE, 0));
        thrown("upper", INDEX, x, y -> y.pieces(0, 3, NONE, NONE, 0));
        thrown("middle", INDEX, x, y -> y.pieces(0, NONE, -2, NONE, 0));
        thrown("lower", INDEX, x, y -> y.pieces(0, NONE, NONE, 3, 0));
        thrown("repeated", INDEX, x, y -> y.pieces(0, NONE, NONE, NONE, NONE));
        thrown("repeated is 0 high", ARGUMENT, x, y -> y.pieces(0, 0, 0, 0, 1));
        thrown("index first", INDEX, x, y -> y.pieces(0, 3, 0, 0, 1));
        thrown("still no pieces", STATE, x, y -> y.signOf(0, 0));
        x.pieces(0, NONE, NONE, NONE, 2);
        same("pieces are there", x.signOf(0, 5), 3);
        shape(x, "five of 1", 3, 1, 5, 0, 5);
        x.pieces(0, NONE, NONE, NONE, 0);
        same("others in their place", x.signOf(0, 5), 4);
        shape(x, "one of 10", 4, 1, 10, 0, 1);
    }

    private static void promise7SignOf() {
        FormulaShapes x = new FormulaShapes();
        x.box(1, 10, 5);
        x.box(2, 20, 10);
        x.box(3, -20, 10);
        x.sign(0, 0);
        x.sign(0, 1);
        same("the first", x.signOf(0, 0), 0);
        same("just so high", x.signOf(0, 15), 0);
        same("the next", x.signOf(0, 16), 1);
        same("the last", x.signOf(0, 31), 1);
        same("the last, greatest least", x.signOf(0, 100000000), 1);
        x.sign(0, 0);
        same("the last, though smaller", x.signOf(0, 31), 0);
        x.sign(1, 2);
        same("a box below 0 is the last", x.signOf(1, 0), 2);
        same("no box was made", x.boxes(), 3);
        thrown("family 8", INDEX, x, y -> y.signOf(8, -1));
        thrown("family -1", INDEX, x, y -> y.signOf(-1, 0));
        thrown("least -1", ARGUMENT, x, y -> y.signOf(2, -1));
        thrown("least", ARGUMENT, x, y -> y.signOf(0, 100000001));
        thrown("no sign", STATE, x, y -> y.signOf(2, 0));
    }

    private static void promise7PutTogether() {
        FormulaShapes x = new FormulaShapes();
        x.box(9, 10, 5);
        x.box(4, 3, 4);
        x.box(5, 2, 9);
        x.box(6, 8, -3);
        x.box(30, 6, 4);
        x.pieces(0, 1, 2, 3, 4);
        same("23 high as they are", x.signOf(0, 23), 5);
        shape(x, "no repeats", 5, 6, 23, 0, 3);
        lies(x, "no repeats", 5, 3, 0, -3, 2, 0, 14, 1, 0, 20);
        same("one on both sides", x.signOf(0, 24), 6);
        shape(x, "one on both sides", 6, 30, 43, 0, 5);
        lies(x, "one on both sides", 6, 3, 0, -3, 4, 0, 9, 2, 0, 24, 4, 0, 30, 1, 0, 40);
        x.pieces(0, 1, NONE, NONE, 4);
        same("no middle", x.signOf(0, 27), 7);
        shape(x, "no middle", 7, 30, 27, 0, 3);
        lies(x, "no middle", 7, 4, 0, 4, 4, 0, 14, 1, 0, 24);
        x.pieces(0, NONE, NONE, NONE, 4);
        same("nothing at all", x.signOf(0, 0), 8);
        shape(x, "nothing at all", 8, 0, 0, 0, 0);
        same("60 at most", x.signOf(0, 100000000), 9);
        shape(x, "60 at most", 9, 30, 600, 0, 60);
        x.pieces(0, NONE, 0, NONE, 4);
        same("60 on both sides", x.signOf(0, 100000000), 10);
        shape(x, "60 on both sides", 10, 30, 1215, 0, 121);
        lies(x, "the first", 10, 4, 0, 4);
        same("the middle", x.part(10, 60, 0), 0);
        same("the middle's y", x.part(10, 60, 2), 605);
        same("the last's y", x.part(10, 120, 2), 1209);
        x.sign(0, 0);
        same("a box that is high enough comes first", x.signOf(0, 15), 0);
        same("pieces where none is", x.signOf(0, 16), 11);
        FormulaShapes f = full();
        f.pieces(0, NONE, NONE, NONE, 0);
        thrown("no room", UNSUPPORTED, f, y -> y.signOf(0, 10));
        thrown("state before room", STATE, f, y -> y.signOf(1, 10));
        f.sign(0, 0);
        same("no room is needed", f.signOf(0, 5), 0);
    }

    private static FormulaShapes withFractionParameters() {
        FormulaShapes x = new FormulaShapes();
        Scenes.parameters(x, 0, 0, 100, 1, 500, 2, 300, 3, 350, 4, 400, 5, 200, 13, 20);
        Scenes.parameters(x, 1, 0, 90, 1, 7000, 2, 3000, 3, 3500, 4, 8000, 5, 2000, 13, 21);
        Scenes.parameters(x, 2, 0, -80, 1, 9000, 2, 5000, 3, 5500, 4, 9500, 5, 4000, 13, 22);
        x.box(101, 60, 40);
        x.box(200, 90, 30);
        x.box(11, 10, 300);
        x.box(10, 400, 5);
        return x;
    }

    private static void promise8FractionWithLine() {
        FormulaShapes x = withFractionParameters();
        same("display", x.fraction(0, 0, 1, 11), 4);
        shape(x, "display", 4, 200, 560, 430, 3);
        lies(x, "display", 4, 0, 50, 500, 1, 0, -400, NONE, 0, 95);
        rule(x, "display", 4, 2, 200, 11);
        same("text, both are moved", x.fraction(1, 2, 3, 11), 5);
        shape(x, "text", 5, 11, 427, 322, 3);
        lies(x, "text", 5, 2, 0, 417, 3, 1, -317, NONE, 0, 95);
        rule(x, "text", 5, 2, 11, 11);
        same("display, thick", x.fraction(0, 2, 3, 101), 6);
        // e 51, c 303: a = 303 - (200 - 151), b = 303 - (49 - 0)
        shape(x, "display, thick", 6, 11, 764, 659, 3);
        lies(x, "display, thick", 6, 2, 0, 754, 3, 1, -654, NONE, 0, 50);
        same("script", x.fraction(2, 0, 1, 10), 7);
        shape(x, "script", 7, 200, 3060, 2030, 3);
        lies(x, "script", 7, 0, 50, 3000, 1, 0, -2000, NONE, 0, 85);
        same("least", x.fraction(3, 1, 0, 1), 8);
        shape(x, "least", 8, 200, 5090, 4040, 3);
        lies(x, "least", 8, 1, 0, 5000, 0, 50, -4000, NONE, 0, -80);
    }

    private static void promise8FractionBare() {
        FormulaShapes x = withFractionParameters();
        same("display, wide enough apart", x.fraction(0, 2, 3, 0), 4);
        shape(x, "display", 4, 11, 510, 405, 2);
        lies(x, "display", 4, 2, 0, 500, 3, 1, -400);
        same("text, both are moved", x.fraction(1, 2, 3, 0), 5);
        shape(x, "text", 5, 11, 465, 310, 2);
        lies(x, "text", 5, 2, 0, 455, 3, 1, -305);
        x.parameter(0, 13, 21);
        same("text, by an odd number", x.fraction(1, 2, 3, 0), 6);
        lies(x, "odd", 6, 2, 0, 457, 3, 1, -307);
        x.box(1, 0, 500);
        same("display, both are moved", x.fraction(0, 7, 3, 0), 8);
        // c 147: g = HALF(147 - (0 - 0)) = 74
        lies(x, "display, moved", 8, 7, 5, 574, 3, 0, -474);
        same("script", x.fraction(2, 0, 1, 0), 9);
        lies(x, "script", 9, 0, 50, 3500, 1, 0, -2000);
        same("least", x.fraction(3, 0, 1, 0), 10);
        lies(x, "least", 10, 0, 50, 5500, 1, 0, -4000);
    }

    private static void promise8Wrong() {
        FormulaShapes x = withFractionParameters();
        thrown("n", INDEX, x, y -> y.fraction(0, 4, 0, 0));
        thrown("d", INDEX, x, y -> y.fraction(0, 0, NONE, 0));
        thrown("index first", INDEX, x, y -> y.fraction(4, 0, 4, -1));
        thrown("style 4", ARGUMENT, x, y -> y.fraction(4, 0, 0, 0));
        thrown("style -1", ARGUMENT, x, y -> y.fraction(-1, 0, 0, 0));
        thrown("thick -1", ARGUMENT, x, y -> y.fraction(0, 0, 0, -1));
        thrown("thick", ARGUMENT, x, y -> y.fraction(0, 0, 0, 1000001));
        same("the greatest thick", x.fraction(0, 0, 0, 1000000), 4);
        FormulaShapes f = full();
        thrown("no room", UNSUPPORTED, f, y -> y.fraction(0, 0, 0, 0));
        thrown("argument before room", ARGUMENT, f, y -> y.fraction(0, 0, 0, -1));
    }

    private static void promise9Root() {
        FormulaShapes x = new FormulaShapes();
        Scenes.parameters(x, 0, 13, 20, 14, -403);
        Scenes.parameters(x, 1, 13, -41, 14, 900);
        x.box(50, 70, 30);
        x.box(9, 15, 300);
        x.box(8, 15, 60);
        x.sign(0, 1);
        x.sign(1, 2);
        // c = 20 + 100, a = 300 - 220 = 80, c 160
        same("display", x.root(0, 0, 0), 3);
        shape(x, "display", 3, 59, 260, 70, 3);
        lies(x, "display", 3, 1, 0, 230, 0, 9, 0, NONE, 9, 230);
        rule(x, "display", 3, 2, 50, 15);
        // c = 20 + 5, d(y) too small
        same("text", x.root(1, 0, 1), 4);
        shape(x, "text", 4, 58, 125, 30, 3);
        lies(x, "text", 4, 2, 0, 95, 0, 8, 0, NONE, 8, 95);
        // c = -41 + 10, a = 300 - 69 = 231, c = -31 + 116
        same("script", x.root(2, 0, 0), 5);
        shape(x, "script", 5, 59, 185, 145, 3);
        lies(x, "script", 5, 1, 0, 155, 0, 9, 0, NONE, 9, 155);
        // all of size 2 is 0: a = 300 - 100, c = 100
        same("least", x.root(3, 0, 0), 6);
        shape(x, "least", 6, 59, 200, 130, 3);
        x.box(0, -500, 0);
        x.box(7, -3, 1);
        x.sign(2, 8);
        x.sign(2, 2);
        same("a least below 0 as 0", x.root(1, 7, 2), 9);
        same("so the box below 0 is not its sign", x.part(9, 0, 0), 2);
    }

    private static void promise9RootPutTogether() {
        FormulaShapes x = new FormulaShapes();
        Scenes.parameters(x, 0, 13, 20, 14, 400);
        x.box(50, 70, 30);
        x.box(9, 15, 85);
        x.pieces(0, NONE, NONE, NONE, 1);
        // c 120, least 240, three of 100: a = 300 - 220, c 160
        same("its sign is a box before it", x.root(0, 0, 0), 3);
        shape(x, "its sign", 2, 9, 300, 0, 3);
        shape(x, "root", 3, 59, 230, 70, 3);
        lies(x, "root", 3, 2, 0, -70, 0, 9, 0, NONE, 9, 230);
        rule(x, "root", 3, 2, 50, 0);
        x.sign(1, 2);
        same("a sign of its own, made so before", x.root(0, 0, 1), 4);
        lies(x, "counts as it is", 4, 2, 0, 190, 0, 9, 0, NONE, 9, 190);
        rule(x, "counts as it is", 4, 2, 50, 300);
        shape(x, "counts as it is", 4, 59, 790, 30, 3);
    }

    private static void promise9Wrong() {
        FormulaShapes x = new FormulaShapes();
        x.box(50, 70, 30);
        thrown("x", INDEX, x, y -> y.root(0, 1, 0));
        thrown("family 8", INDEX, x, y -> y.root(9, 0, 8));
        thrown("family -1", INDEX, x, y -> y.root(0, 0, -1));
        thrown("style", ARGUMENT, x, y -> y.root(4, 0, 0));
        thrown("no sign", STATE, x, y -> y.root(3, 0, 0));
        for (int i = 1; i < 119; i++) {
            x.box(1, 1, 1);
        }
        x.pieces(0, NONE, NONE, NONE, 1);
        thrown("no room for two", UNSUPPORTED, x, y -> y.root(0, 0, 0));
        x.sign(1, 0);
        same("room for one", x.root(0, 0, 1), 119);
        thrown("no room for one", UNSUPPORTED, x, y -> y.root(0, 0, 1));
        thrown("state before room", STATE, x, y -> y.root(0, 0, 2));
    }

    private static FormulaShapes withSignParameters() {
        FormulaShapes x = new FormulaShapes();
        Scenes.parameters(x, 0, 6, 400, 7, 300, 8, 200, 9, 150, 10, 250, 11, 9999, 12, 9999, 13, 10,
                14, -403);
        Scenes.parameters(x, 1, 6, 41, 7, 31, 8, 21, 9, 16, 10, 26, 11, 50, 12, 70, 13, 11, 14, 43);
        Scenes.parameters(x, 2, 6, 42, 7, 32, 8, 22, 9, 17, 10, 27, 11, 15, 12, 19, 13, 12, 14, 44);
        x.set(0, 33);
        x.box(100, 600, 90);
        x.box(20, 30, 10);
        x.box(30, 60, 5);
        x.box(40, 1, 800);
        x.box(50, 700, 2);
        return x;
    }

    private static void promise10SignsAbove() {
        FormulaShapes x = withSignParameters();
        same("by its height", x.signs(0, false, 0, false, 1, NONE), 5);
        shape(x, "by its height", 5, 153, 600, 90, 2);
        lies(x, "by its height", 5, 0, 0, 0, 1, 100, 550);
        same("a letter, display", x.signs(0, false, 0, true, 1, NONE), 6);
        lies(x, "a letter, display", 6, 0, 0, 0, 1, 100, 400);
        same("a letter, text", x.signs(1, false, 0, true, 1, NONE), 7);
        lies(x, "a letter, text", 7, 0, 0, 0, 1, 100, 300);
        same("a letter, cramped", x.signs(0, true, 0, true, 1, NONE), 8);
        lies(x, "a letter, cramped", 8, 0, 0, 0, 1, 100, 200);
        same("by its sign's depth", x.signs(1, false, 0, false, 3, NONE), 9);
        shape(x, "by its sign's depth", 9, 173, 901, 90, 2);
        lies(x, "by its sign's depth", 9, 0, 0, 0, 3, 100, 900);
        same("script", x.signs(2, false, 0, false, 1, NONE), 10);
        lies(x, "script", 10, 0, 0, 0, 1, 100, 585);
        same("a letter, script", x.signs(2, false, 0, true, 1, NONE), 11);
        lies(x, "a letter, script", 11, 0, 0, 0, 1, 100, 31);
        same("a letter, least, cramped", x.signs(3, true, 0, true, 1, NONE), 12);
        lies(x, "a letter, least, cramped", 12, 0, 0, 0, 1, 100, 22);
    }

    private static void promise10SignsBelow() {
        FormulaShapes x = withSignParameters();
        same("by its depth", x.signs(1, false, 0, false, NONE, 1), 5);
        shape(x, "by its depth", 5, 153, 600, 170, 2);
        lies(x, "by its depth", 5, 0, 0, 0, 1, 100, -160);
        same("a letter", x.signs(0, true, 0, true, NONE, 1), 6);
        lies(x, "a letter", 6, 0, 0, 0, 1, 100, -150);
        // |4 P(14)| / 5 = 1612 / 5 = 322
        same("by its sign's height", x.signs(0, false, 0, true, NONE, 4), 7);
        shape(x, "by its sign's height", 7, 183, 600, 380, 2);
        lies(x, "by its sign's height", 7, 0, 0, 0, 4, 100, -378);
        same("least", x.signs(3, false, 0, false, NONE, 1), 8);
        lies(x, "least", 8, 0, 0, 0, 1, 100, -109);
        same("a letter, script", x.signs(2, false, 0, true, NONE, 1), 9);
        lies(x, "a letter, script", 9, 0, 0, 0, 1, 100, -16);
    }

    private static void promise10SignsBoth() {
        FormulaShapes x = withSignParameters();
        same("far enough apart", x.signs(0, false, 0, false, 1, 2), 5);
        shape(x, "far enough apart", 5, 163, 600, 255, 3);
        lies(x, "far enough apart", 5, 0, 0, 0, 1, 100, 550, 2, 100, -250);
        // u 300, v 250: c = 40 - (290 - 450) = 200, g = 322 - 290 = 32
        same("too near", x.signs(1, false, 0, true, 1, 4), 6);
        shape(x, "too near", 6, 183, 600, 420, 3);
        lies(x, "too near", 6, 0, 0, 0, 1, 100, 332, 4, 100, -418);
        // u 550, v 250: c = 40 - (540 - (1000 - 250)) = 250, g below 0
        x.box(1, 1000, 0);
        same("too near, above stays", x.signs(0, false, 0, false, 1, 7), 8);
        lies(x, "above stays", 8, 0, 0, 0, 1, 100, 550, 7, 100, -500);
        shape(x, "above stays", 8, 153, 600, 500, 3);
        // size 1: u 31, v 26: c = 44 - (21 - 34) = 57, g = 34 - 21 = 13
        same("script", x.signs(2, false, 0, true, 1, 2), 9);
        lies(x, "script", 9, 0, 0, 0, 1, 100, 44, 2, 100, -70);
        // a low box: the sign below is the highest, the one above the deepest
        x.box(1, -900, -900);
        x.box(2, -300, 950);
        x.box(3, 900, -700);
        same("crossed", x.signs(3, true, 10, true, 11, 12), 13);
        // u = 950 + 11, v 27: c = 48 - (11 - 873) = 910, g = 35 - 11 = 24
        lies(x, "crossed", 13, 10, 0, 0, 11, 1, 985, 12, 1, -913);
        shape(x, "crossed", 13, 37, 685, 213, 3);
        // u 300, v 250: c = 40 - (290 - (h - 250)) is 0 for 500, 1 for 501; g = 32
        x.box(1, 500, 0);
        x.box(1, 501, 0);
        same("just far enough", x.signs(1, false, 0, true, 1, 14), 16);
        lies(x, "just far enough", 16, 0, 0, 0, 1, 100, 300, 14, 100, -250);
        same("one too near", x.signs(1, false, 0, true, 1, 15), 17);
        lies(x, "one too near", 17, 0, 0, 0, 1, 100, 332, 15, 100, -219);
    }

    private static void promise10Wrong() {
        FormulaShapes x = withSignParameters();
        thrown("b", INDEX, x, y -> y.signs(0, false, NONE, false, 0, 0));
        thrown("a", INDEX, x, y -> y.signs(0, false, 0, false, 5, 0));
        thrown("s", INDEX, x, y -> y.signs(0, false, 0, false, 0, -2));
        thrown("index first", INDEX, x, y -> y.signs(4, false, 5, false, NONE, NONE));
        thrown("style", ARGUMENT, x, y -> y.signs(4, false, 0, false, 0, 0));
        thrown("both lack", ARGUMENT, x, y -> y.signs(0, false, 0, false, NONE, NONE));
        FormulaShapes f = full();
        thrown("no room", UNSUPPORTED, f, y -> y.signs(0, false, 0, false, 0, 0));
        thrown("argument before room", ARGUMENT, f, y -> y.signs(0, true, 0, false, NONE, NONE));
    }

    private static void promise11Limits() {
        FormulaShapes x = new FormulaShapes();
        Scenes.parameters(x, 0, 15, 20, 16, 30, 17, 70, 18, 95, 19, 5);
        Scenes.parameters(x, 1, 15, 21, 16, 31, 17, 20, 18, 30, 19, -6);
        x.box(100, 200, 40);
        x.box(33, 10, 15);
        x.box(151, 80, 8);
        same("both", x.limits(0, 0, 1, 2), 3);
        // u = 55, v = 30 (15 is less)
        shape(x, "both", 3, 151, 285, 163, 3);
        lies(x, "both", 3, 1, 59, 270, 0, 26, 0, 2, 0, -150);
        same("above alone", x.limits(1, 0, 2, NONE), 4);
        shape(x, "above alone", 4, 151, 355, 40, 2);
        lies(x, "above alone", 4, 2, 0, 270, 0, 26, 0);
        same("below alone", x.limits(1, 0, NONE, 1), 5);
        shape(x, "below alone", 5, 100, 200, 155, 2);
        lies(x, "below alone", 5, 0, 0, 0, 1, 34, -135);
        same("script", x.limits(2, 0, 1, 2), 6);
        // u = 21, v = 31
        shape(x, "script", 6, 151, 240, 153, 3);
        lies(x, "script", 6, 1, 59, 236, 0, 26, 0, 2, 0, -151);
    }

    private static void promise11Wrong() {
        FormulaShapes x = new FormulaShapes();
        x.box(1, 1, 1);
        thrown("b", INDEX, x, y -> y.limits(0, 1, 0, 0));
        thrown("a", INDEX, x, y -> y.limits(0, 0, -2, 0));
        thrown("s", INDEX, x, y -> y.limits(0, 0, 0, 1));
        thrown("index first", INDEX, x, y -> y.limits(-1, NONE, NONE, NONE));
        thrown("style", ARGUMENT, x, y -> y.limits(-1, 0, 0, 0));
        thrown("both lack", ARGUMENT, x, y -> y.limits(0, 0, NONE, NONE));
        FormulaShapes f = full();
        thrown("no room", UNSUPPORTED, f, y -> y.limits(0, 0, 0, 0));
        thrown("argument before room", ARGUMENT, f, y -> y.limits(0, 0, NONE, NONE));
    }

    private static void promise12Brackets() {
        FormulaShapes x = new FormulaShapes();
        Scenes.parameters(x, 0, 0, 100);
        x.box(50, 1150, 200);
        x.box(7, 900, 901);
        x.box(9, 1900, 201);
        x.sign(0, 1);
        x.sign(0, 2);
        x.sign(1, 2);
        x.set(1, 299);
        // m 1050: 2 * 901 = 1802, 2100 - 299 = 1801
        same("least 1802", x.brackets(0, 0, 0, 1), 3);
        lies(x, "least 1802", 3, 2, 0, -750, 0, 9, 0, 2, 59, -750);
        shape(x, "least 1802", 3, 68, 1150, 951, 3);
        x.set(1, 1000000);
        x.box(50, 1099, 300);
        // m 999: 901
        same("cut off first", x.brackets(1, 0, 4, 1), 5);
        lies(x, "cut off first", 5, 1, 0, 100, 4, 7, 0, 2, 57, -750);
        shape(x, "cut off first", 5, 66, 1150, 951, 3);
        x.set(1, 0);
        x.box(1, 0, 1);
        x.pieces(2, NONE, NONE, NONE, 6);
        x.box(3, -40, -90);
        // axis 100: m = 10, least 20: each sign is a box of its own
        same("put together twice", x.brackets(0, 2, 7, 2), 10);
        lies(x, "put together twice", 10, 8, 0, 90, 7, 1, 0, 9, 4, 90);
        shape(x, "put together twice", 10, 5, 110, -90, 3);
        shape(x, "left sign", 8, 1, 20, 0, 20);
        shape(x, "right sign", 9, 1, 20, 0, 20);
        // axis 0: m = -40, least below 0
        same("a least below 0 as 0", x.brackets(2, 2, 7, 2), 13);
        shape(x, "its sign", 11, 0, 0, 0, 0);
        shape(x, "a least below 0 as 0", 13, 3, 0, 0, 3);
        lies(x, "a least below 0 as 0", 13, 11, 0, 0, 7, 0, 0, 12, 3, 0);
    }

    private static void promise12Wrong() {
        FormulaShapes x = new FormulaShapes();
        x.box(1, 1, 1);
        x.sign(0, 0);
        thrown("left", INDEX, x, y -> y.brackets(0, 8, 0, 0));
        thrown("x", INDEX, x, y -> y.brackets(0, 0, 1, 0));
        thrown("right", INDEX, x, y -> y.brackets(4, 1, 0, -1));
        thrown("style", ARGUMENT, x, y -> y.brackets(4, 1, 0, 0));
        thrown("no left sign", STATE, x, y -> y.brackets(0, 1, 0, 0));
        thrown("no right sign", STATE, x, y -> y.brackets(0, 0, 0, 1));
        x.box(1, 100, 0);
        for (int i = 2; i < 118; i++) {
            x.box(1, 1, 1);
        }
        x.pieces(1, NONE, NONE, NONE, 0);
        thrown("no room for three", UNSUPPORTED, x, y -> y.brackets(0, 1, 1, 1));
        same("room for two", x.brackets(0, 0, 1, 1), 119);
        thrown("no room for one", UNSUPPORTED, x, y -> y.brackets(0, 0, 0, 0));
        thrown("state before room", STATE, x, y -> y.brackets(0, 0, 0, 2));
    }

    private static void promise13Row() {
        FormulaShapes x = new FormulaShapes();
        x.box(10, 5, -7);
        x.box(20, -8, -3);
        same("a row", x.row(0, 4, 1), 2);
        shape(x, "a row", 2, 34, 5, -3, 2);
        lies(x, "a row", 2, 0, 0, 0, 1, 14, 0);
        same("a gap below 0", x.row(1, -1000000, 0), 3);
        shape(x, "a gap below 0", 3, -999970, 5, -3, 2);
        lies(x, "a gap below 0", 3, 1, 0, 0, 0, -999980, 0);
        same("the greatest gap", x.row(0, 1000000, 0), 4);
        thrown("a", INDEX, x, y -> y.row(5, 0, 0));
        thrown("b", INDEX, x, y -> y.row(0, 1000001, NONE));
        thrown("gap", ARGUMENT, x, y -> y.row(0, 1000001, 0));
        thrown("gap below", ARGUMENT, x, y -> y.row(0, -1000001, 0));
        FormulaShapes f = full();
        thrown("no room", UNSUPPORTED, f, y -> y.row(0, 0, 0));
        thrown("argument before room", ARGUMENT, f, y -> y.row(0, 1000001, 0));
    }

    private static void promise14Centre() {
        FormulaShapes x = new FormulaShapes();
        x.parameter(0, 0, 100);
        x.parameter(1, 0, -100);
        x.parameter(2, 0, 7);
        x.box(10, 50, 17);
        x.box(11, 1, 4);
        same("display", x.centre(0, 0), 2);
        shape(x, "display", 2, 10, 133, -66, 1);
        lies(x, "display", 2, 0, 0, 83);
        same("text", x.centre(1, 1), 3);
        // HALF(-3) = -1
        lies(x, "text", 3, 1, 0, 101);
        same("script", x.centre(2, 0), 4);
        lies(x, "script", 4, 0, 0, -117);
        shape(x, "script", 4, 10, -67, 134, 1);
        same("least", x.centre(3, 0), 5);
        lies(x, "least", 5, 0, 0, -10);
        thrown("x", INDEX, x, y -> y.centre(4, 6));
        thrown("style 4", ARGUMENT, x, y -> y.centre(4, 0));
        thrown("style -1", ARGUMENT, x, y -> y.centre(-1, 0));
        FormulaShapes f = full();
        thrown("no room", UNSUPPORTED, f, y -> y.centre(0, 0));
        thrown("argument before room", ARGUMENT, f, y -> y.centre(4, 0));
    }

    private static void promise15Told() {
        FormulaShapes x = new FormulaShapes();
        thrown("no box", INDEX, x, y -> y.told(0, 0));
        x.box(1, 2, 3);
        shape(x, "a box", 0, 1, 2, 3, 0);
        thrown("box 1", INDEX, x, y -> y.told(1, 0));
        thrown("box -1", INDEX, x, y -> y.told(-1, 0));
        thrown("box 120", INDEX, x, y -> y.told(120, 0));
        thrown("what -1", INDEX, x, y -> y.told(0, -1));
        thrown("what 4", INDEX, x, y -> y.told(0, 4));
    }

    private static void promise16Part() {
        FormulaShapes x = new FormulaShapes();
        x.box(1, 2, 3);
        x.fraction(0, 0, 0, 5);
        lies(x, "a fraction", 1, 0, 0, 21, 0, 0, -20, NONE, 0, -2);
        rule(x, "a fraction", 1, 2, 1, 5);
        thrown("no parts", INDEX, x, y -> y.part(0, 0, 0));
        thrown("box 2", INDEX, x, y -> y.part(2, 0, 0));
        thrown("box -1", INDEX, x, y -> y.part(-1, 0, 0));
        thrown("part 3", INDEX, x, y -> y.part(1, 3, 0));
        thrown("part -1", INDEX, x, y -> y.part(1, -1, 0));
        thrown("a part far off", INDEX, x, y -> y.part(1, Integer.MAX_VALUE, 0));
        thrown("what -1", INDEX, x, y -> y.part(1, 0, -1));
        thrown("what 6", INDEX, x, y -> y.part(1, 0, 6));
        thrown("what 6 of a rule", INDEX, x, y -> y.part(1, 2, 6));
    }

    private static void promise17Boxes() {
        FormulaShapes x = new FormulaShapes();
        same("none", x.boxes(), 0);
        x.box(1, 2, 3);
        same("one", x.boxes(), 1);
        x.pieces(0, NONE, NONE, NONE, 0);
        same("pieces make none", x.boxes(), 1);
        x.brackets(0, 0, 0, 0);
        same("two signs and what is made of them", x.boxes(), 4);
        same("at most", full().boxes(), 120);
    }

    private static void numbersWrapAround() {
        FormulaShapes x = new FormulaShapes();
        x.box(1000000, 1000000, 0);
        int due = 1000000;
        for (int i = 0; i < 20; i++) {
            x.row(i, 1000000, i);
            due = 2 * due + 1000000;
            same("a row's width", x.told(i + 1, 0), due);
        }
    }
}
