import java.util.ArrayList;
import java.util.List;

/** What the tests of promises share: their tally, and the ways to look at a FormulaShapes. */
abstract class Checks {

    static final int NONE = FormulaShapes.NONE;
    static final int MOST_INT = Integer.MAX_VALUE;
    static final int LEAST_INT = Integer.MIN_VALUE;
    static final boolean LETTER = true;
    static final boolean CRAMPED = true;

    static final int DISPLAY = 0;
    static final int TEXT = 1;
    static final int SCRIPT = 2;
    static final int LEAST = 3;

    static final Class<?> INDEX = IndexOutOfBoundsException.class;
    static final Class<?> ARGUMENT = IllegalArgumentException.class;
    static final Class<?> STATE = IllegalStateException.class;
    static final Class<?> UNSUPPORTED = UnsupportedOperationException.class;

    static final int[] NO_FAMILIES = {LEAST_INT, -2, -1, 8, 9, MOST_INT};
    static final int[] NO_STYLES = {LEAST_INT, -2, -1, 4, 5, MOST_INT};

    private static String current = "";
    private static int tests = 0;
    private static int wrong = 0;

    /** Makes the same object, by the same calls, whenever it is asked. */
    interface Scene {
        FormulaShapes make();
    }

    interface Call {
        void on(FormulaShapes x);
    }

    private interface Answer {
        int get();
    }

    // The tally.

    static void test(String name, Runnable body) {
        current = name;
        tests++;
        try {
            body.run();
        } catch (RuntimeException e) {
            fail("threw " + e);
        }
    }

    static void end() {
        System.out.println(wrong == 0 ? tests + " tests hold" : wrong + " answers are wrong");
        if (wrong != 0 || tests == 0) {
            System.exit(1);
        }
    }

    static void fail(String what) {
        wrong++;
        System.out.println(current + ": " + what);
    }

    // Answers.

    static void same(String what, int got, int due) {
        if (got != due) {
            fail(what + ": answered " + got + ", due is " + due);
        }
    }

    /** Due are width, height, depth and how many parts. */
    static void shape(FormulaShapes x, String what, int box, int... due) {
        for (int i = 0; i < 4; i++) {
            same(what + ", told " + i, x.told(box, i), due[i]);
        }
    }

    /** Due are rows of box, x, y for the first parts. */
    static void lies(FormulaShapes x, String what, int box, int... due) {
        for (int i = 0; 3 * i < due.length; i++) {
            for (int k = 0; k < 3; k++) {
                same(what + ", part " + i + " " + k, x.part(box, i, k), due[3 * i + k]);
            }
            int inside = due[3 * i];
            for (int k = 0; inside != NONE && k < 3; k++) {
                same(what + ", part " + i + " size " + k, x.part(box, i, 3 + k), x.told(inside, k));
            }
        }
    }

    static void rule(FormulaShapes x, String what, int box, int i, int width, int height) {
        same(what + ", rule", x.part(box, i, 0), NONE);
        same(what + ", rule's width", x.part(box, i, 3), width);
        same(what + ", rule's height", x.part(box, i, 4), height);
        same(what + ", rule's depth", x.part(box, i, 5), 0);
    }

    // Calls that are refused.

    /** The very class, so that what the machine throws by itself never passes. */
    static void thrown(String what, Class<?> due, FormulaShapes x, Call call) {
        int before = x.boxes();
        throwing(what, due, x, call);
        same(what + ", boxes() after it", x.boxes(), before);
    }

    /**
     * The call throws what is due, and an object on which it was tried answers all that can be
     * asked as its twin does on which it was not.
     */
    static void refused(String what, Class<?> due, Scene scene, Call call) {
        for (int question = 0; question < QUESTIONS; question++) {
            FormulaShapes tried = scene.make();
            throwing(what, due, tried, call);
            List<String> got = asked(tried, question);
            List<String> untouched = asked(scene.make(), question);
            if (!got.equals(untouched)) {
                fail(what + ": the refused call changed something: " + got + ", due is "
                        + untouched);
            }
        }
    }

    private static void throwing(String what, Class<?> due, FormulaShapes x, Call call) {
        Class<?> got = null;
        try {
            call.on(x);
        } catch (RuntimeException e) {
            got = e.getClass();
        }
        if (got != due) {
            fail(what + ": threw " + got + ", due is " + due);
        }
    }

    // All that can be asked, in portions: an object is made for 512 calls.

    private static final int QUESTIONS = 4;

    private static List<String> asked(FormulaShapes x, int question) {
        List<String> answers = new ArrayList<>();
        switch (question) {
            case 0:
                askForNumbers(x, answers);
                break;
            case 1:
                askForBoxes(x, answers, 0, 1);
                break;
            case 2:
                askForBoxes(x, answers, 2, 3);
                askForParts(x, answers);
                break;
            default:
                askForFamilies(x, answers);
                break;
        }
        return answers;
    }

    private static void add(List<String> answers, Answer call) {
        try {
            answers.add("" + call.get());
        } catch (RuntimeException e) {
            answers.add(e.getClass().getSimpleName());
        }
    }

    private static void askForNumbers(FormulaShapes x, List<String> answers) {
        for (int i = 0; i < 63; i++) {
            int at = i;
            add(answers, () -> x.parameter(at / 21, at % 21, 0));
        }
        add(answers, () -> x.set(0, 0));
        add(answers, () -> x.set(1, 0));
        add(answers, x::boxes);
    }

    private static void askForBoxes(FormulaShapes x, List<String> answers, int what, int also) {
        int count = x.boxes();
        for (int i = 0; i < count; i++) {
            int box = i;
            add(answers, () -> x.told(box, what));
            add(answers, () -> x.told(box, also));
        }
    }

    private static void askForParts(FormulaShapes x, List<String> answers) {
        for (int box : new int[] {Scenes.ROW, x.boxes() - 1}) {
            for (int i = 0; i < 24; i++) {
                int at = i;
                add(answers, () -> x.part(box, at / 6, at % 6));
            }
        }
    }

    private static void askForFamilies(FormulaShapes x, List<String> answers) {
        for (int f = 0; f < 8; f++) {
            int family = f;
            for (int least : new int[] {0, 10, 11, 21, 1000}) {
                add(answers, () -> x.signOf(family, least));
            }
            for (int i = 0; i < 5; i++) {
                add(answers, () -> x.sign(family, 0));
            }
        }
        int count = x.boxes();
        for (int box = Math.max(0, count - 20); box < count; box++) {
            int at = box;
            for (int what : new int[] {0, 1, 3}) {
                add(answers, () -> x.told(at, what));
            }
        }
    }

    // Numbers that are no boxes.

    static int[] noBoxes(int count) {
        return new int[] {LEAST_INT, -2, NONE, count, count + 1, 120, MOST_INT};
    }

    static int[] noBoxesNorNone(int count) {
        return new int[] {LEAST_INT, -3, -2, count, count + 1, 120, MOST_INT};
    }
}
