/** Objects that the tests begin with, and boxes whose numbers are near the ends of the ints. */
final class Scenes {

    private static final int NONE = FormulaShapes.NONE;

    /** How many boxes a workshop has, and which of them has parts. */
    static final int BOXES = 6;
    static final int ROW = 5;

    /** Families of a workshop. */
    static final int TWO_BOXES = 0;
    static final int FOUR_BOXES = 1;
    static final int PIECES_ALONE = 2;
    static final int BOX_AND_PIECES = 3;
    static final int EMPTY = 4;

    /** How high 524287 and how low -524288 are after twelve doublings. */
    static final int TALL = 2147479552;
    static final int LOW = Integer.MIN_VALUE;

    private Scenes() {
    }

    /** Some of all: its families' boxes are 10 and 20 high in all, its parameters are small. */
    static FormulaShapes workshop() {
        FormulaShapes x = new FormulaShapes();
        x.box(10, 7, 3);
        x.box(20, 15, 5);
        x.box(30, -4, 4);
        x.box(5, 2, 1);
        x.box(8, 6, -10);
        x.row(0, 3, 1);
        signs(x, TWO_BOXES, 0, 1);
        signs(x, FOUR_BOXES, 0, 1, 0, 1);
        x.pieces(PIECES_ALONE, 0, NONE, 0, 3);
        signs(x, BOX_AND_PIECES, 0);
        x.pieces(BOX_AND_PIECES, 0, 3, 0, 3);
        for (int size = 0; size < 3; size++) {
            parameters(x, size, 0, 4 + size, 13, 2, 20, 9);
        }
        x.set(0, 11);
        x.set(1, 12);
        return x;
    }

    /** A workshop with so many boxes. */
    static FormulaShapes filledTo(int boxes) {
        FormulaShapes x = workshop();
        for (int i = BOXES; i < boxes; i++) {
            x.box(1, 2, 3);
        }
        return x;
    }

    static FormulaShapes full() {
        return filledTo(120);
    }

    static void parameters(FormulaShapes x, int size, int... kv) {
        for (int i = 0; i + 1 < kv.length; i += 2) {
            x.parameter(size, kv[i], kv[i + 1]);
        }
    }

    static void signs(FormulaShapes x, int family, int... boxes) {
        for (int box : boxes) {
            x.sign(family, box);
        }
    }

    /** A family of new boxes, so high in all, without depth, 1, 2, .. wide: the first one. */
    static int ladder(FormulaShapes x, int family, int... heights) {
        int first = x.boxes();
        for (int i = 0; i < heights.length; i++) {
            x.sign(family, x.box(i + 1, heights[i], 0));
        }
        return first;
    }

    // Numbers that no box() may have, made by doubling twelve times: 13 boxes each. The
    // parameters of size 0 must be 0 meanwhile.

    /** A box 4096 times so high, without depth and width. */
    static int doubledUp(FormulaShapes x, int height) {
        int b = x.box(0, height, 0);
        for (int i = 0; i < 12; i++) {
            b = x.limits(1, b, b, NONE);
        }
        return b;
    }

    /** A box 4096 times so deep, without height and width. */
    static int doubledDown(FormulaShapes x, int depth) {
        int b = x.box(0, 0, depth);
        for (int i = 0; i < 12; i++) {
            b = x.limits(1, b, NONE, b);
        }
        return b;
    }

    /** A box 4096 times so wide, without height and depth. */
    static int doubledWide(FormulaShapes x, int width) {
        int dot = x.box(0, 0, 0);
        int b = x.row(dot, width, dot);
        for (int i = 0; i < 12; i++) {
            b = x.row(b, 0, b);
        }
        return b;
    }

    /** A box with the one's height and the other one's depth. */
    static int both(FormulaShapes x, int up, int down) {
        return x.fraction(1, up, down, 0);
    }
}
