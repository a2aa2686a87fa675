/** Boundary cases of promise 3. */
public final class Promise03SetTest extends Checks {

    private static final int[] NO_WHATS = {LEAST_INT, -1, 2, MOST_INT};
    private static final int[] NO_VALUES = {LEAST_INT, -1, 1000001, MOST_INT};

    public static void main(String[] args) {
        test("promise 3: v from 0 to 1000000", Promise03SetTest::values);
        test("promise 3: other v are refused", Promise03SetTest::otherValues);
        test("promise 3: what is 0 or 1", Promise03SetTest::otherWhats);
        test("promise 3: what it was", Promise03SetTest::whatItWas);
        test("promise 3: the index is named first", Promise03SetTest::indexFirst);
        test("promise 3: one number for all", Promise03SetTest::oneNumberForAll);
        end();
    }

    private static void values() {
        for (int what = 0; what < 2; what++) {
            FormulaShapes x = new FormulaShapes();
            same("at first", x.set(what, 1000000), 0);
            same("the greatest", x.set(what, 0), 1000000);
            same("the least", x.set(what, 1), 0);
        }
    }

    private static void otherValues() {
        for (int v : NO_VALUES) {
            refused("SPACE " + v, ARGUMENT, Scenes::workshop, x -> x.set(0, v));
            refused("SHORT " + v, ARGUMENT, Scenes::workshop, x -> x.set(1, v));
        }
    }

    private static void otherWhats() {
        for (int what : NO_WHATS) {
            refused("what " + what, INDEX, Scenes::workshop, x -> x.set(what, 0));
        }
    }

    private static void whatItWas() {
        FormulaShapes x = new FormulaShapes();
        same("SPACE at first", x.set(0, 5), 0);
        same("SHORT at first", x.set(1, 7), 0);
        same("SPACE, the same again", x.set(0, 5), 5);
        same("SHORT, another", x.set(1, 8), 7);
        same("SPACE", x.set(0, 0), 5);
        same("SHORT", x.set(1, 0), 8);
    }

    private static void indexFirst() {
        for (int v : NO_VALUES) {
            refused("what -1, v " + v, INDEX, Scenes::workshop, x -> x.set(-1, v));
            refused("what 2, v " + v, INDEX, Scenes::workshop, x -> x.set(2, v));
        }
    }

    private static void oneNumberForAll() {
        FormulaShapes x = new FormulaShapes();
        x.box(10, 0, 0);
        x.set(0, 1000000);
        for (int style = DISPLAY; style <= LEAST; style++) {
            same("SPACE", x.told(x.signs(style, !CRAMPED, 0, !LETTER, 0, NONE), 0), 1000020);
        }
        int high = x.box(0, 50, 0);
        int first = Scenes.ladder(x, 0, 90, 91, 100);
        x.set(1, 9);
        for (int style = DISPLAY; style <= LEAST; style++) {
            same("SHORT", x.part(x.brackets(style, 0, high, 0), 0, 0), first + 1);
        }
    }
}
