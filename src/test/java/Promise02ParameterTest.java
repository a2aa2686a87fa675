/** Boundary cases of promise 2. */
public final class Promise02ParameterTest extends Checks {

    private static final int[] NO_SIZES = {LEAST_INT, -1, 3, MOST_INT};
    private static final int[] NO_PARAMETERS = {LEAST_INT, -21, -1, 21, 22, 62, MOST_INT};
    private static final int[] NO_VALUES = {LEAST_INT, -1000001, 1000001, MOST_INT};

    public static void main(String[] args) {
        test("promise 2: v from -1000000", Promise02ParameterTest::leastValue);
        test("promise 2: v to 1000000", Promise02ParameterTest::greatestValue);
        test("promise 2: other v are refused", Promise02ParameterTest::otherValues);
        test("promise 2: sizes 0 to 2", Promise02ParameterTest::sizes);
        test("promise 2: k from 0 to 20", Promise02ParameterTest::numbersOfParameters);
        test("promise 2: what it was", Promise02ParameterTest::whatItWas);
        test("promise 2: the index is named first", Promise02ParameterTest::indexFirst);
        test("promise 2: the size of a style is 0, 0, 1, 2", Promise02ParameterTest::sizesOfStyles);
        test("promise 2: P(20) is nothing", Promise02ParameterTest::parameter20IsNothing);
        end();
    }

    private static void leastValue() {
        valueEverywhere(-1000000);
    }

    private static void greatestValue() {
        valueEverywhere(1000000);
    }

    private static void valueEverywhere(int v) {
        FormulaShapes x = new FormulaShapes();
        for (int i = 0; i < 63; i++) {
            same("it was", x.parameter(i / 21, i % 21, v), 0);
        }
        for (int i = 0; i < 63; i++) {
            same("it is", x.parameter(i / 21, i % 21, 0), v);
        }
    }

    private static void otherValues() {
        for (int v : NO_VALUES) {
            refused("first, v " + v, ARGUMENT, Scenes::workshop, x -> x.parameter(0, 0, v));
            refused("last, v " + v, ARGUMENT, Scenes::workshop, x -> x.parameter(2, 20, v));
        }
    }

    private static void sizes() {
        for (int size : NO_SIZES) {
            refused("size " + size, INDEX, Scenes::workshop, x -> x.parameter(size, 0, 1));
            refused("size " + size, INDEX, Scenes::workshop, x -> x.parameter(size, 20, 1));
        }
    }

    /** 21 of size 0 must not reach 0 of size 1, nor -1 of size 1 reach 20 of size 0. */
    private static void numbersOfParameters() {
        for (int k : NO_PARAMETERS) {
            for (int size = 0; size < 3; size++) {
                int s = size;
                refused("k " + k, INDEX, Scenes::workshop, x -> x.parameter(s, k, 1));
            }
        }
    }

    private static void whatItWas() {
        FormulaShapes x = new FormulaShapes();
        for (int i = 0; i < 63; i++) {
            same("at first", x.parameter(i / 21, i % 21, i + 1), 0);
        }
        for (int i = 0; i < 63; i++) {
            same("each has its own", x.parameter(i / 21, i % 21, i + 1), i + 1);
        }
        same("it became the same", x.parameter(2, 20, -5), 63);
        same("then another", x.parameter(2, 20, 0), -5);
    }

    private static void indexFirst() {
        for (int v : NO_VALUES) {
            refused("size, v " + v, INDEX, Scenes::workshop, x -> x.parameter(3, 0, v));
            refused("k, v " + v, INDEX, Scenes::workshop, x -> x.parameter(0, 21, v));
        }
    }

    private static void sizesOfStyles() {
        FormulaShapes x = new FormulaShapes();
        x.box(1, 0, 0);
        for (int size = 0; size < 3; size++) {
            x.parameter(size, 0, 10 + size);
        }
        int[] due = {10, 10, 11, 12};
        for (int style = DISPLAY; style <= LEAST; style++) {
            lies(x, "style " + style, x.centre(style, 0), 0, 0, due[style]);
        }
    }

    private static void parameter20IsNothing() {
        for (int v : new int[] {-1000000, 1000000}) {
            for (int style = DISPLAY; style <= LEAST; style++) {
                FormulaShapes x = madeInStyle(style, v);
                FormulaShapes y = madeInStyle(style, 0);
                same("boxes()", x.boxes(), y.boxes());
                for (int box = Scenes.BOXES; box < y.boxes(); box++) {
                    shape(x, "box " + box, box, y.told(box, 0), y.told(box, 1), y.told(box, 2),
                            y.told(box, 3));
                    for (int i = 0; i < Math.min(3, y.told(box, 3)); i++) {
                        same("x", x.part(box, i, 1), y.part(box, i, 1));
                        same("y", x.part(box, i, 2), y.part(box, i, 2));
                    }
                }
            }
        }
    }

    private static FormulaShapes madeInStyle(int style, int parameter20) {
        FormulaShapes x = Scenes.workshop();
        for (int size = 0; size < 3; size++) {
            x.parameter(size, 20, parameter20);
        }
        x.fraction(style, 0, 1, 0);
        x.fraction(style, 0, 1, 2);
        x.root(style, 0, Scenes.TWO_BOXES);
        x.root(style, 0, Scenes.PIECES_ALONE);
        x.signs(style, CRAMPED, 0, LETTER, 1, 3);
        x.signs(style, !CRAMPED, 0, !LETTER, NONE, 3);
        x.limits(style, 0, 1, 3);
        x.brackets(style, Scenes.TWO_BOXES, 0, Scenes.PIECES_ALONE);
        x.centre(style, 0);
        return x;
    }
}
