import java.util.ArrayList;
import java.util.Arrays;
import java.util.List;

/**
 * Long runs of calls on the program and on a second, plain reading of the document (Model), which
 * must answer the same. The calls come from a fixed row of numbers, so every run is the same.
 */
public final class ModelTest {

    private static final int RUNS = 3000;
    private static final int MAKING_CALLS = 190;
    private static final int ASKING_CALLS = 300;

    private static long seed;

    public static void main(String[] args) {
        int answers = 0;
        for (int run = 0; run < RUNS; run++) {
            seed = 1000003L * run + 17;
            int mode = run % 4;
            FormulaShapes x = new FormulaShapes();
            Model m = new Model();
            List<String> calls = new ArrayList<>();
            for (int i = 0; i < MAKING_CALLS + ASKING_CALLS; i++) {
                int[] call = i < MAKING_CALLS ? making(m, mode, i) : asking(m);
                calls.add(Arrays.toString(call));
                String got = program(x, call);
                String due = model(m, call);
                answers++;
                if (!got.equals(due)) {
                    System.out.println("run " + run + ", call " + i + " " + calls.get(i)
                            + " answered " + got + ", due is " + due);
                    System.out.println("the calls: " + calls);
                    System.exit(1);
                }
            }
        }
        System.out.println(answers + " answers are those of the model");
    }

    // Calls: the method's number, then its arguments.

    private static int next(int bound) {
        seed = seed * 6364136223846793005L + 1442695040888963407L;
        return (int) ((seed >>> 33) % bound);
    }

    private static boolean seldom() {
        return next(40) == 0;
    }

    private static int among(int... values) {
        return values[next(values.length)];
    }

    private static int boxOf(Model m) {
        if (seldom() || m.boxes.isEmpty()) {
            return among(-2, -1, m.boxes.size(), 120, Integer.MAX_VALUE, Integer.MIN_VALUE);
        }
        // Late ones more often, so that boxes lie deep in one another.
        int size = m.boxes.size();
        return next(2) == 0 ? next(size) : size - 1 - next(Math.min(size, 5));
    }

    private static int boxOrNone(Model m) {
        return next(3) == 0 ? -1 : boxOf(m);
    }

    private static int familyOf() {
        return seldom() ? among(-1, 8, Integer.MAX_VALUE, Integer.MIN_VALUE) : next(4);
    }

    private static int styleOf() {
        return seldom() ? among(-1, 4, Integer.MAX_VALUE, Integer.MIN_VALUE) : next(4);
    }

    private static int number(int mode, int from, int to) {
        if (seldom()) {
            return among(from - 1, to + 1, from, to, Integer.MAX_VALUE, Integer.MIN_VALUE);
        }
        int span = mode == 0 ? 100 : mode == 1 ? 5000 : 1000000;
        int v = next(2 * span + 1) - span;
        return from == 0 ? Math.abs(v) : v;
    }

    private static int[] making(Model m, int mode, int i) {
        if (i < 40) {
            return next(4) == 0
                    ? new int[] {2, number(mode, 0, 1000000), number(mode, -1000000, 1000000),
                        number(mode, -1000000, 1000000)}
                    : new int[] {0, seldom() ? among(-1, 3) : next(3),
                        seldom() ? among(-1, 21) : next(21), number(mode, -1000000, 1000000)};
        }
        switch (next(mode == 3 ? 15 : 13)) {
            case 0: return new int[] {0, next(3), next(21), number(mode, -1000000, 1000000)};
            case 1: return new int[] {1, seldom() ? among(-1, 2) : next(2),
                number(mode, 0, 1000000)};
            case 2: return new int[] {2, number(mode, 0, 1000000), number(mode, -1000000, 1000000),
                number(mode, -1000000, 1000000)};
            case 3: return new int[] {3, familyOf(), boxOf(m)};
            case 4: return new int[] {4, familyOf(), boxOrNone(m), boxOrNone(m), boxOrNone(m),
                boxOf(m)};
            case 5: return new int[] {5, familyOf(), number(next(3), 0, 100000000)};
            case 6: return new int[] {6, styleOf(), boxOf(m), boxOf(m),
                next(3) == 0 ? 0 : number(mode, 0, 1000000)};
            case 7: return new int[] {7, styleOf(), boxOf(m), familyOf()};
            case 8: return new int[] {8, styleOf(), next(2), boxOf(m), next(2), boxOrNone(m),
                boxOrNone(m)};
            case 9: return new int[] {9, styleOf(), boxOf(m), boxOrNone(m), boxOrNone(m)};
            case 10: return new int[] {10, styleOf(), familyOf(), boxOf(m), familyOf()};
            case 11: return new int[] {11, boxOf(m), number(mode, -1000000, 1000000), boxOf(m)};
            case 12: return new int[] {12, styleOf(), boxOf(m)};
            // Roots and rows of the newest boxes grow until their numbers wrap around.
            case 13: return new int[] {7, styleOf(), Math.max(0, m.boxes.size() - 1), familyOf()};
            default: return new int[] {11, Math.max(0, m.boxes.size() - 1), 0,
                Math.max(0, m.boxes.size() - 1)};
        }
    }

    private static int[] asking(Model m) {
        int kind = next(20);
        if (kind == 0) {
            return new int[] {15};
        }
        int box = boxOf(m);
        if (kind < 9) {
            return new int[] {13, box, seldom() ? among(-1, 4) : next(4)};
        }
        int parts = box >= 0 && box < m.boxes.size() ? m.boxes.get(box).parts.size() : 0;
        int i = parts == 0 || seldom() ? among(-1, parts, Integer.MAX_VALUE) : next(parts);
        return new int[] {14, box, i, seldom() ? among(-1, 6) : next(6)};
    }

    private static String program(FormulaShapes x, int[] c) {
        try {
            switch (c[0]) {
                case 0: return "" + x.parameter(c[1], c[2], c[3]);
                case 1: return "" + x.set(c[1], c[2]);
                case 2: return "" + x.box(c[1], c[2], c[3]);
                case 3: return "" + x.sign(c[1], c[2]);
                case 4: x.pieces(c[1], c[2], c[3], c[4], c[5]); return "";
                case 5: return "" + x.signOf(c[1], c[2]);
                case 6: return "" + x.fraction(c[1], c[2], c[3], c[4]);
                case 7: return "" + x.root(c[1], c[2], c[3]);
                case 8: return "" + x.signs(c[1], c[2] == 1, c[3], c[4] == 1, c[5], c[6]);
                case 9: return "" + x.limits(c[1], c[2], c[3], c[4]);
                case 10: return "" + x.brackets(c[1], c[2], c[3], c[4]);
                case 11: return "" + x.row(c[1], c[2], c[3]);
                case 12: return "" + x.centre(c[1], c[2]);
                case 13: return "" + x.told(c[1], c[2]);
                case 14: return "" + x.part(c[1], c[2], c[3]);
                default: return "" + x.boxes();
            }
        } catch (RuntimeException e) {
            return "throws." + e.getClass().getSimpleName();
        }
    }

    private static String model(Model m, int[] c) {
        try {
            switch (c[0]) {
                case 0: return m.parameter(c[1], c[2], c[3]);
                case 1: return m.set(c[1], c[2]);
                case 2: return m.box(c[1], c[2], c[3]);
                case 3: return m.sign(c[1], c[2]);
                case 4: return m.pieces(c[1], c[2], c[3], c[4], c[5]);
                case 5: return m.signOf(c[1], c[2]);
                case 6: return m.fraction(c[1], c[2], c[3], c[4]);
                case 7: return m.root(c[1], c[2], c[3]);
                case 8: return m.signs(c[1], c[2] == 1, c[3], c[4] == 1, c[5], c[6]);
                case 9: return m.limits(c[1], c[2], c[3], c[4]);
                case 10: return m.brackets(c[1], c[2], c[3], c[4]);
                case 11: return m.row(c[1], c[2], c[3]);
                case 12: return m.centre(c[1], c[2]);
                case 13: return m.told(c[1], c[2]);
                case 14: return m.part(c[1], c[2], c[3]);
                default: return "" + m.boxes.size();
            }
        } catch (Refused e) {
            return "throws." + e.getMessage();
        }
    }

    private static final class Refused extends RuntimeException {
        private static final long serialVersionUID = 1;

        Refused(String name) {
            super(name);
        }
    }

    private static final class Part {
        int box = -1;
        int x;
        int y;
        int w;
        int h;
        int d;
    }

    private static final class Shape {
        int w;
        int h;
        int d;
        List<Part> parts = new ArrayList<>();
    }

    private static final class Model {
        final List<Shape> boxes = new ArrayList<>();
        final int[][] p = new int[3][21];
        final int[] both = new int[2];
        final List<List<Integer>> signs = new ArrayList<>();
        final int[][] pieces = new int[8][];

        Model() {
            for (int i = 0; i < 8; i++) {
                signs.add(new ArrayList<>());
            }
        }

        static void index(boolean right) {
            if (!right) {
                throw new Refused("IndexOutOfBoundsException");
            }
        }

        static void argument(boolean right) {
            if (!right) {
                throw new Refused("IllegalArgumentException");
            }
        }

        static void state(boolean right) {
            if (!right) {
                throw new Refused("IllegalStateException");
            }
        }

        static void supported(boolean right) {
            if (!right) {
                throw new Refused("UnsupportedOperationException");
            }
        }

        boolean is(int box) {
            return 0 <= box && box < boxes.size();
        }

        boolean isOrLacks(int box) {
            return box == -1 || is(box);
        }

        static boolean family(int f) {
            return 0 <= f && f <= 7;
        }

        static boolean style(int s) {
            return 0 <= s && s <= 3;
        }

        int[] size(int style) {
            return p[new int[] {0, 0, 1, 2}[style]];
        }

        static int half(int x) {
            return (x & 1) == 0 ? x / 2 : (x + 1) / 2;
        }

        static int abs(int x) {
            return x < 0 ? -x : x;
        }

        String add(Shape s) {
            supported(boxes.size() < 120);
            boxes.add(s);
            return "" + (boxes.size() - 1);
        }

        void lay(Shape s, int box, int x, int y) {
            Part q = new Part();
            q.box = box;
            q.x = x;
            q.y = y;
            q.w = boxes.get(box).w;
            q.h = boxes.get(box).h;
            q.d = boxes.get(box).d;
            s.parts.add(q);
        }

        static void layRule(Shape s, int x, int y, int w, int h) {
            Part q = new Part();
            q.x = x;
            q.y = y;
            q.w = w;
            q.h = h;
            s.parts.add(q);
        }

        static void measure(Shape s) {
            s.h = s.parts.stream().mapToInt(q -> q.y + q.h).max().getAsInt();
            s.d = s.parts.stream().mapToInt(q -> q.d - q.y).max().getAsInt();
        }

        String parameter(int size, int k, int v) {
            index(size >= 0 && size <= 2 && k >= 0 && k <= 20);
            argument(v >= -1000000 && v <= 1000000);
            int was = p[size][k];
            p[size][k] = v;
            return "" + was;
        }

        String set(int what, int v) {
            index(what >= 0 && what <= 1);
            argument(v >= 0 && v <= 1000000);
            int was = both[what];
            both[what] = v;
            return "" + was;
        }

        String box(int w, int h, int d) {
            argument(w >= 0 && w <= 1000000 && h >= -1000000 && h <= 1000000
                    && d >= -1000000 && d <= 1000000);
            Shape s = new Shape();
            s.w = w;
            s.h = h;
            s.d = d;
            return add(s);
        }

        String sign(int f, int box) {
            index(family(f) && is(box));
            supported(signs.get(f).size() < 4);
            signs.get(f).add(box);
            return "" + signs.get(f).size();
        }

        String pieces(int f, int upper, int middle, int lower, int repeated) {
            index(family(f) && isOrLacks(upper) && isOrLacks(middle) && isOrLacks(lower)
                    && is(repeated));
            argument(total(repeated) > 0);
            pieces[f] = new int[] {upper, middle, lower, repeated};
            return "";
        }

        int total(int box) {
            return boxes.get(box).h + boxes.get(box).d;
        }

        /** The sign's own box, or -1 for one that is put together. */
        int find(int f, int least) {
            for (int box : signs.get(f)) {
                if (total(box) >= least) {
                    return box;
                }
            }
            state(pieces[f] != null || !signs.get(f).isEmpty());
            return pieces[f] != null ? -1 : signs.get(f).get(signs.get(f).size() - 1);
        }

        Shape together(int[] four, int least) {
            for (int n = 0;; n++) {
                List<Integer> order = new ArrayList<>();
                order.add(four[2]);
                for (int i = 0; i < n; i++) {
                    order.add(four[3]);
                }
                order.add(four[1]);
                for (int i = 0; i < n && four[1] != -1; i++) {
                    order.add(four[3]);
                }
                order.add(four[0]);
                order.removeIf(box -> box == -1);
                Shape s = new Shape();
                for (int box : order) {
                    lay(s, box, 0, s.h + boxes.get(box).d);
                    s.h += total(box);
                }
                if (s.h >= least || n == 60) {
                    s.w = s.parts.stream().mapToInt(q -> q.w).max().orElse(0);
                    return s;
                }
            }
        }

        int make(int f, int found, int least) {
            return found != -1 ? found : Integer.parseInt(add(together(pieces[f], least)));
        }

        String signOf(int f, int least) {
            index(family(f));
            argument(least >= 0 && least <= 100000000);
            return "" + make(f, find(f, least), least);
        }

        String fraction(int style, int n, int d, int thick) {
            index(is(n) && is(d));
            argument(style(style) && thick >= 0 && thick <= 1000000);
            int[] q = size(style);
            Shape up = boxes.get(n);
            Shape down = boxes.get(d);
            int u = style == 0 ? q[1] : thick > 0 ? q[2] : q[3];
            int v = style == 0 ? q[4] : q[5];
            int e = half(thick);
            if (thick == 0) {
                int c = style == 0 ? 7 * q[13] : 3 * q[13];
                int g = half(c - ((u - up.d) - (down.h - v)));
                if (g > 0) {
                    u += g;
                    v += g;
                }
            } else {
                int c = style == 0 ? 3 * thick : thick;
                int a = c - ((u - up.d) - (q[0] + e));
                int b = c - ((q[0] - e) - (down.h - v));
                if (a > 0) {
                    u += a;
                }
                if (b > 0) {
                    v += b;
                }
            }
            Shape s = new Shape();
            s.w = up.w > down.w ? up.w : down.w;
            s.h = u + up.h;
            s.d = down.d + v;
            lay(s, n, half(s.w - up.w), u);
            lay(s, d, half(s.w - down.w), -v);
            if (thick > 0) {
                layRule(s, 0, q[0] + e - thick, s.w, thick);
            }
            return add(s);
        }

        String root(int style, int x, int f) {
            index(is(x) && family(f));
            argument(style(style));
            int[] q = size(style);
            Shape in = boxes.get(x);
            int c = style == 0 ? q[13] + abs(q[14]) / 4 : q[13] + abs(q[13]) / 4;
            int least = in.h + in.d + c + q[13];
            if (least < 0) {
                least = 0;
            }
            int found = find(f, least);
            supported(boxes.size() + (found == -1 ? 2 : 1) <= 120);
            int y = make(f, found, least);
            Shape sign = boxes.get(y);
            int t = found == -1 ? 0 : sign.h;
            int dy = found == -1 ? sign.h : sign.d;
            int a = dy - (in.h + in.d + c);
            if (a > 0) {
                c += half(a);
            }
            Shape s = new Shape();
            lay(s, y, 0, found == -1 ? in.h + c - sign.h : in.h + c);
            lay(s, x, sign.w, 0);
            layRule(s, sign.w, in.h + c, in.w, t);
            s.w = sign.w + in.w;
            s.h = in.h + c + 2 * t;
            s.d = Math.max(in.d, dy - (in.h + c));
            return add(s);
        }

        String signs(int style, boolean cramped, int b, boolean letter, int a, int s) {
            index(is(b) && isOrLacks(a) && isOrLacks(s));
            argument(style(style) && (a != -1 || s != -1));
            int[] q = size(style);
            int[] small = size(style < 2 ? 2 : 3);
            Shape base = boxes.get(b);
            int u = letter ? 0 : base.h - small[11];
            int v = letter ? 0 : base.d + small[12];
            int fifth = abs(4 * q[14]) / 5;
            if (a != -1) {
                u = Math.max(u, cramped ? q[8] : style == 0 ? q[6] : q[7]);
                u = Math.max(u, boxes.get(a).d + abs(q[14]) / 4);
            }
            if (s != -1 && a == -1) {
                v = Math.max(v, q[9]);
                v = Math.max(v, boxes.get(s).h - fifth);
            }
            if (s != -1 && a != -1) {
                v = Math.max(v, q[10]);
                int c = 4 * q[13] - ((u - boxes.get(a).d) - (boxes.get(s).h - v));
                if (c > 0) {
                    v += c;
                    int g = fifth - (u - boxes.get(a).d);
                    if (g > 0) {
                        u += g;
                        v -= g;
                    }
                }
            }
            Shape made = new Shape();
            lay(made, b, 0, 0);
            if (a != -1) {
                lay(made, a, base.w, u);
            }
            if (s != -1) {
                lay(made, s, base.w, -v);
            }
            measure(made);
            made.w = base.w + both[0]
                    + made.parts.stream().skip(1).mapToInt(part -> part.w).max().getAsInt();
            return add(made);
        }

        String limits(int style, int b, int a, int s) {
            index(is(b) && isOrLacks(a) && isOrLacks(s));
            argument(style(style) && (a != -1 || s != -1));
            int[] q = size(style);
            Shape base = boxes.get(b);
            Shape made = new Shape();
            made.h = base.h;
            made.d = base.d;
            if (a != -1) {
                Shape up = boxes.get(a);
                int u = Math.max(q[17] - up.d, q[15]);
                lay(made, a, 0, base.h + u + up.d);
                made.h = base.h + u + up.d + up.h + q[19];
            }
            lay(made, b, 0, 0);
            if (s != -1) {
                Shape down = boxes.get(s);
                int v = Math.max(q[18] - down.h, q[16]);
                lay(made, s, 0, -(base.d + v + down.h));
                made.d = base.d + v + down.h + down.d + q[19];
            }
            made.w = made.parts.stream().mapToInt(part -> part.w).max().getAsInt();
            for (Part part : made.parts) {
                part.x = half(made.w - part.w);
            }
            return add(made);
        }

        String brackets(int style, int left, int x, int right) {
            index(family(left) && is(x) && family(right));
            argument(style(style));
            int axis = size(style)[0];
            Shape in = boxes.get(x);
            int m = Math.max(in.h - axis, in.d + axis);
            int least = Math.max(m / 500 * 901, 2 * m - both[1]);
            if (least < 0) {
                least = 0;
            }
            int l = find(left, least);
            int r = find(right, least);
            supported(boxes.size() + (l == -1 ? 1 : 0) + (r == -1 ? 1 : 0) + 1 <= 120);
            l = make(left, l, least);
            r = make(right, r, least);
            Shape s = new Shape();
            for (int box : new int[] {l, x, r}) {
                Shape it = boxes.get(box);
                lay(s, box, s.w, s.parts.size() == 1 ? 0 : axis - half(it.h - it.d));
                s.w += it.w;
            }
            measure(s);
            return add(s);
        }

        String row(int a, int gap, int b) {
            index(is(a) && is(b));
            argument(gap >= -1000000 && gap <= 1000000);
            Shape s = new Shape();
            lay(s, a, 0, 0);
            lay(s, b, boxes.get(a).w + gap, 0);
            measure(s);
            s.w = boxes.get(a).w + gap + boxes.get(b).w;
            return add(s);
        }

        String centre(int style, int x) {
            index(is(x));
            argument(style(style));
            Shape s = new Shape();
            lay(s, x, 0, size(style)[0] - half(boxes.get(x).h - boxes.get(x).d));
            measure(s);
            s.w = boxes.get(x).w;
            return add(s);
        }

        String told(int box, int what) {
            index(is(box) && what >= 0 && what <= 3);
            Shape s = boxes.get(box);
            return "" + new int[] {s.w, s.h, s.d, s.parts.size()}[what];
        }

        String part(int box, int i, int what) {
            index(is(box) && i >= 0 && i < boxes.get(box).parts.size() && what >= 0 && what <= 5);
            Part q = boxes.get(box).parts.get(i);
            return "" + new int[] {q.box, q.x, q.y, q.w, q.h, q.d}[what];
        }
    }
}
