import java.util.Arrays;

/** Boundary cases of promise 7, with those of SIGN OF and PUT TOGETHER. */
public final class Promise07SignOfTest extends Checks {

    private static final int[] NO_LEASTS = {LEAST_INT, -1, 100000001, MOST_INT};

    /** In withPieces(): 7, 11, 5 and 10 high in all. */
    private static final int U = 0;
    private static final int M = 1;
    private static final int L = 2;
    private static final int R = 3;

    public static void main(String[] args) {
        test("promise 7: families 0 to 7", Promise07SignOfTest::families);
        test("promise 7: least from 0 to 100000000", Promise07SignOfTest::leasts);
        test("promise 7: neither boxes nor pieces", Promise07SignOfTest::neitherBoxesNorPieces);
        test("promise 7: the one named first", Promise07SignOfTest::namedFirst);
        test("promise 7: least or more", Promise07SignOfTest::leastOrMore);
        test("promise 7: else the last", Promise07SignOfTest::elseTheLast);
        test("promise 7: heights in all wrap around", Promise07SignOfTest::heightsWrapAround);
        test("promise 7: pieces where none is so high", Promise07SignOfTest::piecesWhereNoneIs);
        test("promise 7: each piece may lack, n 0", Promise07SignOfTest::eachMayLackNone);
        test("promise 7: each piece may lack, n 1", Promise07SignOfTest::eachMayLackOne);
        test("promise 7: n is the least number", Promise07SignOfTest::leastNumber);
        test("promise 7: n 60 at most", Promise07SignOfTest::atMost60);
        test("promise 7: n 60 at most on both sides", Promise07SignOfTest::atMost60OnBothSides);
        test("promise 7: a sum below 0", Promise07SignOfTest::sumBelow0);
        test("promise 7: the sum wraps around", Promise07SignOfTest::sumWrapsAround);
        test("promise 7: what n adds wraps around", Promise07SignOfTest::repeatsWrapAround);
        test("promise 7: the greatest width", Promise07SignOfTest::greatestWidth);
        test("promise 7: 120 boxes at most", Promise07SignOfTest::atMost120);
        end();
    }

    private static FormulaShapes withPieces() {
        FormulaShapes x = new FormulaShapes();
        x.box(4, 3, 4);
        x.box(5, 2, 9);
        x.box(6, 8, -3);
        x.box(7, 6, 4);
        return x;
    }

    private static void families() {
        FormulaShapes x = new FormulaShapes();
        for (int f = 0; f < 8; f++) {
            x.sign(f, x.box(f, 1, 1));
        }
        for (int f = 0; f < 8; f++) {
            same("family " + f, x.signOf(f, 2), f);
        }
        for (int f : NO_FAMILIES) {
            refused("family " + f, INDEX, Scenes::workshop, y -> y.signOf(f, 0));
        }
    }

    private static void leasts() {
        FormulaShapes x = Scenes.workshop();
        same("0", x.signOf(Scenes.TWO_BOXES, 0), 0);
        same("100000000", x.signOf(Scenes.TWO_BOXES, 100000000), 1);
        same("100000000 of pieces", x.signOf(Scenes.PIECES_ALONE, 100000000), Scenes.BOXES);
        same("60 times", x.told(Scenes.BOXES, 3), 62);
        for (int least : NO_LEASTS) {
            refused("boxes " + least, ARGUMENT, Scenes::workshop,
                    y -> y.signOf(Scenes.TWO_BOXES, least));
            refused("pieces " + least, ARGUMENT, Scenes::workshop,
                    y -> y.signOf(Scenes.PIECES_ALONE, least));
        }
    }

    private static void neitherBoxesNorPieces() {
        refused("least 0", STATE, Scenes::workshop, x -> x.signOf(Scenes.EMPTY, 0));
        refused("least 100000000", STATE, Scenes::workshop, x -> x.signOf(7, 100000000));
        FormulaShapes x = Scenes.workshop();
        same("boxes alone", x.signOf(Scenes.TWO_BOXES, 21), 1);
        same("pieces alone", x.signOf(Scenes.PIECES_ALONE, 21), Scenes.BOXES);
    }

    private static void namedFirst() {
        refused("index, argument", INDEX, Scenes::workshop, x -> x.signOf(8, -1));
        refused("index, argument, full", INDEX, Scenes::full, x -> x.signOf(-1, 100000001));
        refused("argument, state", ARGUMENT, Scenes::workshop, x -> x.signOf(Scenes.EMPTY, -1));
        refused("argument, no room", ARGUMENT, Scenes::full,
                x -> x.signOf(Scenes.PIECES_ALONE, 100000001));
        refused("state, no room", STATE, Scenes::full, x -> x.signOf(Scenes.EMPTY, 5));
    }

    private static void leastOrMore() {
        FormulaShapes x = new FormulaShapes();
        Scenes.ladder(x, 0, 10, 20, 30, 40);
        int[] leasts = {0, 9, 10, 11, 20, 21, 30, 31, 40};
        int[] due = {0, 0, 0, 1, 1, 2, 2, 3, 3};
        for (int i = 0; i < leasts.length; i++) {
            same("least " + leasts[i], x.signOf(0, leasts[i]), due[i]);
        }
        x.box(1, 1000000, -999985);
        x.sign(1, 4);
        x.pieces(1, NONE, NONE, NONE, 0);
        same("height and depth together", x.signOf(1, 15), 4);
        same("one more", x.signOf(1, 16), 5);
        x.sign(2, x.box(1, -7, 7));
        x.pieces(2, NONE, NONE, NONE, 0);
        same("0 is 0 or more", x.signOf(2, 0), 6);
        x.sign(3, x.box(1, -7, 6));
        x.pieces(3, NONE, NONE, NONE, 0);
        same("-1 is not", x.signOf(3, 0), 8);
    }

    private static void elseTheLast() {
        FormulaShapes x = new FormulaShapes();
        Scenes.ladder(x, 0, 10);
        Scenes.ladder(x, 1, 10, 20);
        Scenes.ladder(x, 2, 10, 30, 20);
        Scenes.ladder(x, 3, 10, 20, 30, 40);
        Scenes.ladder(x, 4, -1);
        same("of one", x.signOf(0, 11), 0);
        same("of two", x.signOf(1, 21), 2);
        same("of three, not the highest", x.signOf(2, 31), 5);
        same("of four", x.signOf(3, 41), 9);
        same("below 0", x.signOf(4, 0), 10);
        same("no box is made", x.boxes(), 11);
    }

    private static void heightsWrapAround() {
        FormulaShapes x = new FormulaShapes();
        int great = Scenes.both(x, Scenes.doubledUp(x, 524287), Scenes.doubledDown(x, 524287));
        int low = Scenes.both(x, Scenes.doubledUp(x, -524287), Scenes.doubledDown(x, -524287));
        int small = x.box(0, 0, 0);
        Scenes.signs(x, 0, great, small);
        same("-8192 is below 0", x.signOf(0, 0), small);
        Scenes.signs(x, 1, low, small);
        same("8192 is above", x.signOf(1, 8192), low);
        same("8193 is more", x.signOf(1, 8193), small);
    }

    private static void piecesWhereNoneIs() {
        FormulaShapes x = Scenes.workshop();
        same("one is so high", x.signOf(Scenes.BOX_AND_PIECES, 10), 0);
        same("no box is made for it", x.boxes(), Scenes.BOXES);
        same("none is", x.signOf(Scenes.BOX_AND_PIECES, 11), Scenes.BOXES);
        shape(x, "10, 3, 10", Scenes.BOXES, 10, 23, 0, 3);
        same("a box of its own each time", x.signOf(Scenes.BOX_AND_PIECES, 11), Scenes.BOXES + 1);
        same("two more", x.boxes(), Scenes.BOXES + 2);
    }

    private static void eachMayLackNone() {
        FormulaShapes x = withPieces();
        made(x, "none", NONE, NONE, NONE, 0, new int[] {0, 0});
        made(x, "upper", U, NONE, NONE, 7, new int[] {4, 7, U, 0, 4});
        made(x, "middle", NONE, M, NONE, 11, new int[] {5, 11, M, 0, 9});
        made(x, "lower", NONE, NONE, L, 5, new int[] {6, 5, L, 0, -3});
        made(x, "no lower", U, M, NONE, 18, new int[] {5, 18, M, 0, 9, U, 0, 15});
        made(x, "no middle", U, NONE, L, 12, new int[] {6, 12, L, 0, -3, U, 0, 9});
        made(x, "no upper", NONE, M, L, 16, new int[] {6, 16, L, 0, -3, M, 0, 14});
        made(x, "all", U, M, L, 23, new int[] {6, 23, L, 0, -3, M, 0, 14, U, 0, 20});
    }

    private static void eachMayLackOne() {
        FormulaShapes x = withPieces();
        made(x, "none", NONE, NONE, NONE, 1, new int[] {7, 10, R, 0, 4});
        made(x, "upper", U, NONE, NONE, 8, new int[] {7, 17, R, 0, 4, U, 0, 14});
        made(x, "middle", NONE, M, NONE, 12, new int[] {7, 31, R, 0, 4, M, 0, 19, R, 0, 25});
        made(x, "lower", NONE, NONE, L, 6, new int[] {7, 15, L, 0, -3, R, 0, 9});
        made(x, "no lower", U, M, NONE, 19,
                new int[] {7, 38, R, 0, 4, M, 0, 19, R, 0, 25, U, 0, 35});
        made(x, "no middle", U, NONE, L, 13, new int[] {7, 22, L, 0, -3, R, 0, 9, U, 0, 19});
        made(x, "no upper", NONE, M, L, 17,
                new int[] {7, 36, L, 0, -3, R, 0, 9, M, 0, 24, R, 0, 30});
        made(x, "all", U, M, L, 24,
                new int[] {7, 43, L, 0, -3, R, 0, 9, M, 0, 24, R, 0, 30, U, 0, 40});
    }

    /** Due are width, height and rows of box, x, y. */
    private static void made(FormulaShapes x, String what, int upper, int middle, int lower,
            int least, int[] due) {
        x.pieces(0, upper, middle, lower, R);
        int box = x.signOf(0, least);
        int[] parts = Arrays.copyOfRange(due, 2, due.length);
        shape(x, what, box, due[0], due[1], 0, parts.length / 3);
        lies(x, what, box, parts);
    }

    private static void leastNumber() {
        FormulaShapes x = withPieces();
        x.pieces(0, U, NONE, L, R);
        x.pieces(1, U, M, L, R);
        int[] leasts = {0, 12, 13, 22, 23, 32, 33};
        int[] due = {12, 12, 22, 22, 32, 32, 42};
        for (int i = 0; i < leasts.length; i++) {
            same("least " + leasts[i], x.told(x.signOf(0, leasts[i]), 1), due[i]);
        }
        leasts = new int[] {0, 23, 24, 43, 44, 63, 64};
        due = new int[] {23, 23, 43, 43, 63, 63, 83};
        for (int i = 0; i < leasts.length; i++) {
            same("with a middle one, " + leasts[i], x.told(x.signOf(1, leasts[i]), 1), due[i]);
        }
    }

    private static void atMost60() {
        FormulaShapes x = withPieces();
        x.pieces(0, NONE, NONE, NONE, R);
        shape(x, "59", x.signOf(0, 590), 7, 590, 0, 59);
        shape(x, "60", x.signOf(0, 591), 7, 600, 0, 60);
        shape(x, "just 60", x.signOf(0, 600), 7, 600, 0, 60);
        shape(x, "more would be due", x.signOf(0, 601), 7, 600, 0, 60);
        int box = x.signOf(0, 100000000);
        shape(x, "far more would be due", box, 7, 600, 0, 60);
        same("the lowest one's y", x.part(box, 0, 2), 4);
        same("the highest one's y", x.part(box, 59, 2), 594);
        thrown("there is no part 60", INDEX, x, y -> y.part(box, 60, 0));
    }

    private static void atMost60OnBothSides() {
        FormulaShapes x = withPieces();
        x.pieces(0, U, M, L, R);
        shape(x, "59", x.signOf(0, 1203), 7, 1203, 0, 121);
        shape(x, "60", x.signOf(0, 1204), 7, 1223, 0, 123);
        shape(x, "just 60", x.signOf(0, 1223), 7, 1223, 0, 123);
        int box = x.signOf(0, 1224);
        shape(x, "more would be due", box, 7, 1223, 0, 123);
        same("the lowest one", x.part(box, 0, 0), L);
        same("below the middle one", x.part(box, 60, 0), R);
        same("the middle one", x.part(box, 61, 0), M);
        same("the middle one's y", x.part(box, 61, 2), 614);
        same("above the middle one", x.part(box, 62, 0), R);
        same("the highest one", x.part(box, 122, 0), U);
        same("the highest one's y", x.part(box, 122, 2), 1220);
        thrown("there is no part 123", INDEX, x, y -> y.part(box, 123, 0));
    }

    private static void sumBelow0() {
        FormulaShapes x = new FormulaShapes();
        x.box(1, 2, -6);
        x.box(1, 3, 0);
        x.pieces(0, 0, NONE, NONE, 1);
        int box = x.signOf(0, 0);
        shape(x, "two make 2 of -4", box, 1, 2, 0, 3);
        lies(x, "two make 2 of -4", box, 1, 0, 0, 1, 0, 3, 0, 0, 0);
        shape(x, "2 are enough", x.signOf(0, 2), 1, 2, 0, 3);
        shape(x, "for 3 one more", x.signOf(0, 3), 1, 5, 0, 4);
        x.pieces(0, x.box(1, -1000000, 0), NONE, NONE, 1);
        shape(x, "60 are not enough", x.signOf(0, 0), 1, -999820, 0, 61);
    }

    private static void sumWrapsAround() {
        FormulaShapes x = new FormulaShapes();
        int tall = Scenes.doubledUp(x, 524287);
        int small = x.box(1, 5000, 0);
        x.pieces(0, tall, NONE, tall, small);
        int box = x.signOf(0, 0);
        shape(x, "-8192 and two of 5000", box, 1, 1808, 0, 4);
        lies(x, "they lie", box, tall, 0, 0, small, 0, Scenes.TALL, small, 0, -2147482744,
                tall, 0, -2147477744);
        same("for 1809 one more", x.told(x.signOf(0, 1809), 1), 6808);
    }

    private static void repeatsWrapAround() {
        FormulaShapes x = new FormulaShapes();
        int middle = x.box(1, 5, 0);
        int tall = Scenes.doubledUp(x, 500000);
        x.pieces(0, NONE, middle, NONE, tall);
        // Two of 2048000000 are -198967296; eleven times that and 5 are 2106327045.
        shape(x, "eleven times", x.signOf(0, 6), 1, 2106327045, 0, 23);
        int taller = Scenes.doubledUp(x, 524287);
        x.pieces(0, NONE, middle, NONE, taller);
        shape(x, "ever less, 60 times", x.signOf(0, 6), 1, -491515, 0, 121);
        shape(x, "none is due", x.signOf(0, 5), 1, 5, 0, 1);
    }

    private static void greatestWidth() {
        FormulaShapes x = new FormulaShapes();
        x.box(5, 1, 0);
        x.box(9, 1, 0);
        x.box(7, 1, 0);
        x.box(8, 1, 0);
        x.pieces(0, 0, NONE, 2, 1);
        same("the repeated one's", x.told(x.signOf(0, 3), 0), 9);
        same("no repeated one is in it", x.told(x.signOf(0, 2), 0), 7);
        x.pieces(0, 0, 3, 2, 0);
        same("the middle one's", x.told(x.signOf(0, 3), 0), 8);
        int narrow = x.row(0, -20, 0);
        int narrower = x.row(0, -30, 0);
        x.pieces(0, narrower, NONE, NONE, narrow);
        same("both below 0", x.told(x.signOf(0, 2), 0), -10);
        same("one below 0", x.told(x.signOf(0, 1), 0), -20);
    }

    private static void atMost120() {
        FormulaShapes x = Scenes.filledTo(119);
        same("the 120th", x.signOf(Scenes.PIECES_ALONE, 5), 119);
        thrown("the 121st", UNSUPPORTED, x, y -> y.signOf(Scenes.PIECES_ALONE, 5));
        same("a box that there is", x.signOf(Scenes.BOX_AND_PIECES, 10), 0);
        same("the last of boxes", x.signOf(Scenes.TWO_BOXES, 100000000), 1);
        refused("no room", UNSUPPORTED, Scenes::full, y -> y.signOf(Scenes.PIECES_ALONE, 0));
        refused("no room", UNSUPPORTED, Scenes::full, y -> y.signOf(Scenes.BOX_AND_PIECES, 11));
    }
}
