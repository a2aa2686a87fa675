/**
 * Boxes of formulas, made from boxes by rows of parameters in whole scaled points.
 *
 * <p>Every call looks at all its arguments, and at the room for new boxes, before it changes
 * anything: so a call that throws leaves the object as it was. All sums wrap around as ints do.
 */
public final class FormulaShapes {

    public static final int NONE = -1;

    private static final int MOST_BOXES = 120;
    private static final int FAMILIES = 8;
    private static final int MOST_SIGNS = 4;
    private static final int MOST_REPEATS = 60;
    private static final int SIZES = 3;
    private static final int PARAMETERS = 21;
    private static final int MOST = 1000000;
    private static final int MOST_LEAST = 100000000;

    private static final int DISPLAY = 0;
    private static final int TEXT = 1;
    private static final int SCRIPT = 2;
    private static final int LEAST = 3;

    private static final int AXIS = 0;
    private static final int ABOVE_IN_DISPLAY = 1;
    private static final int ABOVE_WITH_LINE = 2;
    private static final int ABOVE_WITHOUT_LINE = 3;
    private static final int BELOW_IN_DISPLAY = 4;
    private static final int BELOW_ELSE = 5;
    private static final int UP_IN_DISPLAY = 6;
    private static final int UP_ELSE = 7;
    private static final int UP_CRAMPED = 8;
    private static final int DOWN_ALONE = 9;
    private static final int DOWN_WITH_ONE_ABOVE = 10;
    private static final int UNDER_HEIGHT = 11;
    private static final int OVER_DEPTH = 12;
    private static final int RULE = 13;
    private static final int SMALL_LETTERS = 14;
    private static final int LIMIT_LEAST_ABOVE = 15;
    private static final int LIMIT_LEAST_BELOW = 16;
    private static final int LIMIT_ABOVE = 17;
    private static final int LIMIT_BELOW = 18;
    private static final int LIMIT_AROUND = 19;

    /** A part is held as three numbers in a row: its box (NONE for a rule), its x, its y. */
    private static final int PLACE = 3;
    private static final int[] NO_PLACES = {};

    private final Box[] made;
    private int count;
    private final Family[] families;
    private final int[] parameters;
    private int space;
    private int shortBy;

    public FormulaShapes() {
        made = new Box[MOST_BOXES];
        families = new Family[FAMILIES];
        for (int i = 0; i < FAMILIES; i++) {
            families[i] = new Family();
        }
        parameters = new int[SIZES * PARAMETERS];
    }

    public int parameter(int size, int k, int v)
            throws IndexOutOfBoundsException, IllegalArgumentException {
        if (size < 0 || size >= SIZES) {
            throw new IndexOutOfBoundsException("no such size");
        }
        if (k < 0 || k >= PARAMETERS) {
            throw new IndexOutOfBoundsException("no such parameter");
        }
        needWithin(v, -MOST, MOST);
        int at = size * PARAMETERS + k;
        int before = parameters[at];
        parameters[at] = v;
        return before;
    }

    public int set(int what, int v) throws IndexOutOfBoundsException, IllegalArgumentException {
        if (what != 0 && what != 1) {
            throw new IndexOutOfBoundsException("what is 0 or 1");
        }
        needWithin(v, 0, MOST);
        if (what == 0) {
            int before = space;
            space = v;
            return before;
        }
        int before = shortBy;
        shortBy = v;
        return before;
    }

    public int box(int width, int height, int depth)
            throws IllegalArgumentException, UnsupportedOperationException {
        needWithin(width, 0, MOST);
        needWithin(height, -MOST, MOST);
        needWithin(depth, -MOST, MOST);
        needRoom(1);
        return keep(new Box(width, height, depth, NO_PLACES));
    }

    public int sign(int family, int box)
            throws IndexOutOfBoundsException, UnsupportedOperationException {
        needFamily(family);
        needBox(box);
        Family f = families[family];
        if (f.count >= MOST_SIGNS) {
            throw new UnsupportedOperationException("the family has all its boxes");
        }
        f.members[f.count] = box;
        f.count++;
        return f.count;
    }

    public void pieces(int family, int upper, int middle, int lower, int repeated)
            throws IndexOutOfBoundsException, IllegalArgumentException {
        needFamily(family);
        needBoxOrNone(upper);
        needBoxOrNone(middle);
        needBoxOrNone(lower);
        needBox(repeated);
        if (extentOf(repeated) <= 0) {
            throw new IllegalArgumentException("the repeated piece must be above 0 high");
        }
        Family f = families[family];
        f.upper = upper;
        f.middle = middle;
        f.lower = lower;
        f.repeated = repeated;
    }

    public int signOf(int family, int least)
            throws IndexOutOfBoundsException, IllegalArgumentException, IllegalStateException,
                    UnsupportedOperationException {
        needFamily(family);
        needWithin(least, 0, MOST_LEAST);
        Family f = families[family];
        needSign(f);
        int ready = readySign(f, least);
        needRoom(newBoxesFor(ready));
        return keptSign(f, ready, least);
    }

    public int fraction(int style, int n, int d, int thick)
            throws IndexOutOfBoundsException, IllegalArgumentException,
                    UnsupportedOperationException {
        needBox(n);
        needBox(d);
        needStyle(style);
        needWithin(thick, 0, MOST);
        needRoom(1);
        return keep(thick > 0 ? fractionWithLine(style, n, d, thick) : fractionBare(style, n, d));
    }

    public int root(int style, int x, int family)
            throws IndexOutOfBoundsException, IllegalArgumentException, IllegalStateException,
                    UnsupportedOperationException {
        needBox(x);
        needFamily(family);
        needStyle(style);
        Family f = families[family];
        needSign(f);
        int clear = rootClearance(style);
        int least = Math.max(0, extentOf(x) + clear + valueOf(style, RULE));
        int ready = readySign(f, least);
        needRoom(newBoxesFor(ready) + 1);
        int y = keptSign(f, ready, least);
        return keep(rootShape(x, y, clear, ready == NONE));
    }

    public int signs(int style, boolean cramped, int b, boolean letter, int a, int s)
            throws IndexOutOfBoundsException, IllegalArgumentException,
                    UnsupportedOperationException {
        needBox(b);
        needBoxOrNone(a);
        needBoxOrNone(s);
        needStyle(style);
        needOneOf(a, s);
        needRoom(1);
        int inner = style == DISPLAY || style == TEXT ? SCRIPT : LEAST;
        int u = letter ? 0 : heightOf(b) - valueOf(inner, UNDER_HEIGHT);
        int v = letter ? 0 : depthOf(b) + valueOf(inner, OVER_DEPTH);
        if (a == NONE) {
            v = downAlone(style, v, s);
            return keep(enclosing(widthOf(b) + widthOf(s) + space,
                    new int[] {b, 0, 0, s, widthOf(b), -v}));
        }
        u = upShift(style, cramped, u, a);
        if (s == NONE) {
            return keep(enclosing(widthOf(b) + widthOf(a) + space,
                    new int[] {b, 0, 0, a, widthOf(b), u}));
        }
        return keep(signsOnBothSides(style, u, v, b, a, s));
    }

    public int limits(int style, int b, int a, int s)
            throws IndexOutOfBoundsException, IllegalArgumentException,
                    UnsupportedOperationException {
        needBox(b);
        needBoxOrNone(a);
        needBoxOrNone(s);
        needStyle(style);
        needOneOf(a, s);
        needRoom(1);
        return keep(limitsShape(style, b, a, s));
    }

    public int brackets(int style, int left, int x, int right)
            throws IndexOutOfBoundsException, IllegalArgumentException, IllegalStateException,
                    UnsupportedOperationException {
        needFamily(left);
        needBox(x);
        needFamily(right);
        needStyle(style);
        Family onLeft = families[left];
        Family onRight = families[right];
        needSign(onLeft);
        needSign(onRight);
        int least = bracketsLeast(style, x);
        int readyLeft = readySign(onLeft, least);
        int readyRight = readySign(onRight, least);
        needRoom(newBoxesFor(readyLeft) + newBoxesFor(readyRight) + 1);
        int l = keptSign(onLeft, readyLeft, least);
        int r = keptSign(onRight, readyRight, least);
        int xAt = widthOf(l);
        int rAt = xAt + widthOf(x);
        return keep(enclosing(rAt + widthOf(r), new int[] {
            l, 0, onAxis(style, l),
            x, xAt, 0,
            r, rAt, onAxis(style, r)}));
    }

    public int row(int a, int gap, int b)
            throws IndexOutOfBoundsException, IllegalArgumentException,
                    UnsupportedOperationException {
        needBox(a);
        needBox(b);
        needWithin(gap, -MOST, MOST);
        needRoom(1);
        int bAt = widthOf(a) + gap;
        return keep(enclosing(bAt + widthOf(b), new int[] {a, 0, 0, b, bAt, 0}));
    }

    public int centre(int style, int x)
            throws IndexOutOfBoundsException, IllegalArgumentException,
                    UnsupportedOperationException {
        needBox(x);
        needStyle(style);
        needRoom(1);
        return keep(enclosing(widthOf(x), new int[] {x, 0, onAxis(style, x)}));
    }

    public int told(int box, int what) throws IndexOutOfBoundsException {
        needBox(box);
        switch (what) {
            case 0:
                return widthOf(box);
            case 1:
                return heightOf(box);
            case 2:
                return depthOf(box);
            case 3:
                return made[box].places.length / PLACE;
            default:
                throw new IndexOutOfBoundsException("what is 0 to 3");
        }
    }

    public int part(int box, int i, int what) throws IndexOutOfBoundsException {
        needBox(box);
        Box whole = made[box];
        if (i < 0 || i >= whole.places.length / PLACE) {
            throw new IndexOutOfBoundsException("no such part");
        }
        if (what < 0 || what > 5) {
            throw new IndexOutOfBoundsException("what is 0 to 5");
        }
        if (what < PLACE) {
            return whole.places[i * PLACE + what];
        }
        int inside = whole.places[i * PLACE];
        if (inside == NONE) {
            return what == 3 ? whole.ruleWidth : what == 4 ? whole.ruleHeight : 0;
        }
        return what == 3 ? widthOf(inside) : what == 4 ? heightOf(inside) : depthOf(inside);
    }

    public int boxes() {
        return count;
    }

    // What calls ask of their arguments. The face's order of exceptions is kept by the order in
    // which a call asks.

    private void needBox(int box) {
        if (box < 0 || box >= count) {
            throw new IndexOutOfBoundsException("no such box");
        }
    }

    private void needBoxOrNone(int box) {
        if (box != NONE) {
            needBox(box);
        }
    }

    private static void needFamily(int family) {
        if (family < 0 || family >= FAMILIES) {
            throw new IndexOutOfBoundsException("no such family");
        }
    }

    private static void needStyle(int style) {
        if (style < DISPLAY || style > LEAST) {
            throw new IllegalArgumentException("no such style");
        }
    }

    private static void needWithin(int v, int from, int to) {
        if (v < from || v > to) {
            throw new IllegalArgumentException("a number is too small or too great");
        }
    }

    private static void needOneOf(int a, int s) {
        if (a == NONE && s == NONE) {
            throw new IllegalArgumentException("one must be there, above or below");
        }
    }

    private static void needSign(Family f) {
        if (f.count == 0 && f.repeated == NONE) {
            throw new IllegalStateException("the family has neither boxes nor pieces");
        }
    }

    private void needRoom(int more) {
        if (count + more > MOST_BOXES) {
            throw new UnsupportedOperationException("there are too many boxes");
        }
    }

    // Boxes and parameters, for arguments that have been looked at.

    private int keep(Box b) {
        int number = count;
        made[number] = b;
        count++;
        return number;
    }

    private int widthOf(int box) {
        return made[box].width;
    }

    private int heightOf(int box) {
        return made[box].height;
    }

    private int depthOf(int box) {
        return made[box].depth;
    }

    private int extentOf(int box) {
        return box == NONE ? 0 : made[box].height + made[box].depth;
    }

    private int valueOf(int style, int k) {
        int size = style <= TEXT ? 0 : style - 1;
        return parameters[size * PARAMETERS + k];
    }

    private static int half(int x) {
        return x % 2 == 0 ? x / 2 : (x + 1) / 2;
    }

    private int onAxis(int style, int box) {
        return valueOf(style, AXIS) - half(heightOf(box) - depthOf(box));
    }

    /** A box that is as high and as deep as its parts ask; none of them may be a rule. */
    private Box enclosing(int width, int[] places) {
        int height = 0;
        int depth = 0;
        for (int at = 0; at + PLACE <= places.length; at += PLACE) {
            int inside = places[at];
            int y = places[at + 2];
            int top = y + heightOf(inside);
            int bottom = depthOf(inside) - y;
            // The first part counts even where it is below 0.
            height = at == 0 ? top : Math.max(height, top);
            depth = at == 0 ? bottom : Math.max(depth, bottom);
        }
        return new Box(width, height, depth, places);
    }

    // Signs of families.

    /** The family's own box that is its sign; NONE where the sign must be put together. */
    private int readySign(Family f, int least) {
        for (int i = 0; i < f.count; i++) {
            if (extentOf(f.members[i]) >= least) {
                return f.members[i];
            }
        }
        return f.repeated != NONE || f.count == 0 ? NONE : f.members[f.count - 1];
    }

    private static int newBoxesFor(int ready) {
        return ready == NONE ? 1 : 0;
    }

    private int keptSign(Family f, int ready, int least) {
        return ready == NONE ? keep(putTogether(f, least)) : ready;
    }

    private Box putTogether(Family f, int least) {
        boolean hasMiddle = f.middle != NONE;
        int once = extentOf(f.repeated);
        int step = hasMiddle ? 2 * once : once;
        int sum = extentOf(f.upper) + extentOf(f.middle) + extentOf(f.lower);
        int n = 0;
        while (n < MOST_REPEATS && sum < least) {
            sum += step;
            n++;
        }
        int singles = oneIfThere(f.upper) + oneIfThere(f.middle) + oneIfThere(f.lower);
        Pile pile = new Pile(singles + (hasMiddle ? 2 * n : n));
        pileUp(pile, f.lower, 1);
        pileUp(pile, f.repeated, n);
        if (hasMiddle) {
            pileUp(pile, f.middle, 1);
            pileUp(pile, f.repeated, n);
        }
        pileUp(pile, f.upper, 1);
        return pile.asBox();
    }

    private static int oneIfThere(int box) {
        return box == NONE ? 0 : 1;
    }

    private void pileUp(Pile pile, int box, int times) {
        if (box == NONE) {
            return;
        }
        for (int i = 0; i < times; i++) {
            pile.put(box, made[box]);
        }
    }

    // Fractions.

    private Box fractionBare(int style, int n, int d) {
        boolean display = style == DISPLAY;
        int u = valueOf(style, display ? ABOVE_IN_DISPLAY : ABOVE_WITHOUT_LINE);
        int v = valueOf(style, display ? BELOW_IN_DISPLAY : BELOW_ELSE);
        int clear = (display ? 7 : 3) * valueOf(style, RULE);
        int g = half(clear - ((u - depthOf(n)) - (heightOf(d) - v)));
        if (g > 0) {
            u += g;
            v += g;
        }
        int width = Math.max(widthOf(n), widthOf(d));
        return new Box(width, u + heightOf(n), depthOf(d) + v, new int[] {
            n, half(width - widthOf(n)), u,
            d, half(width - widthOf(d)), -v});
    }

    private Box fractionWithLine(int style, int n, int d, int thick) {
        boolean display = style == DISPLAY;
        int u = valueOf(style, display ? ABOVE_IN_DISPLAY : ABOVE_WITH_LINE);
        int v = valueOf(style, display ? BELOW_IN_DISPLAY : BELOW_ELSE);
        int axis = valueOf(style, AXIS);
        int e = half(thick);
        int clear = display ? 3 * thick : thick;
        u += Math.max(0, clear - ((u - depthOf(n)) - (axis + e)));
        v += Math.max(0, clear - ((axis - e) - (heightOf(d) - v)));
        int width = Math.max(widthOf(n), widthOf(d));
        int[] places = {
            n, half(width - widthOf(n)), u,
            d, half(width - widthOf(d)), -v,
            NONE, 0, axis + e - thick};
        return new Box(width, u + heightOf(n), depthOf(d) + v, places, width, thick);
    }

    // Roots.

    private int rootClearance(int style) {
        int rule = valueOf(style, RULE);
        int from = style == DISPLAY ? valueOf(style, SMALL_LETTERS) : rule;
        return rule + Math.abs(from) / 4;
    }

    private Box rootShape(int x, int y, int clear, boolean together) {
        // A sign that is put together hangs from its top, as the signs of fonts do.
        int t = together ? 0 : heightOf(y);
        int hang = together ? heightOf(y) : depthOf(y);
        int over = hang - (extentOf(x) + clear);
        int line = heightOf(x) + clear + (over > 0 ? half(over) : 0);
        int[] places = {
            y, 0, together ? line - heightOf(y) : line,
            x, widthOf(y), 0,
            NONE, widthOf(y), line};
        int depth = Math.max(depthOf(x), hang - line);
        return new Box(widthOf(y) + widthOf(x), line + 2 * t, depth, places, widthOf(x), t);
    }

    // Signs above and below the line.

    private int upShift(int style, boolean cramped, int u, int a) {
        int k = cramped ? UP_CRAMPED : style == DISPLAY ? UP_IN_DISPLAY : UP_ELSE;
        int up = Math.max(u, valueOf(style, k));
        return Math.max(up, depthOf(a) + Math.abs(valueOf(style, SMALL_LETTERS)) / 4);
    }

    private int downAlone(int style, int v, int s) {
        int down = Math.max(v, valueOf(style, DOWN_ALONE));
        return Math.max(down, heightOf(s) - fourFifths(style));
    }

    private int fourFifths(int style) {
        return Math.abs(4 * valueOf(style, SMALL_LETTERS)) / 5;
    }

    private Box signsOnBothSides(int style, int up, int down, int b, int a, int s) {
        int u = up;
        int v = Math.max(down, valueOf(style, DOWN_WITH_ONE_ABOVE));
        int c = 4 * valueOf(style, RULE) - ((u - depthOf(a)) - (heightOf(s) - v));
        if (c > 0) {
            int g = Math.max(0, fourFifths(style) - (u - depthOf(a)));
            u += g;
            v += c - g;
        }
        int width = widthOf(b) + Math.max(widthOf(a), widthOf(s)) + space;
        return enclosing(width, new int[] {b, 0, 0, a, widthOf(b), u, s, widthOf(b), -v});
    }

    // Limits.

    private Box limitsShape(int style, int b, int a, int s) {
        int around = valueOf(style, LIMIT_AROUND);
        int width = widthOf(b);
        int height = heightOf(b);
        int depth = depthOf(b);
        int aAt = 0;
        int sAt = 0;
        if (a != NONE) {
            int u = Math.max(valueOf(style, LIMIT_ABOVE) - depthOf(a),
                    valueOf(style, LIMIT_LEAST_ABOVE));
            aAt = height + u + depthOf(a);
            height = aAt + heightOf(a) + around;
            width = Math.max(width, widthOf(a));
        }
        if (s != NONE) {
            int v = Math.max(valueOf(style, LIMIT_BELOW) - heightOf(s),
                    valueOf(style, LIMIT_LEAST_BELOW));
            sAt = -(depth + v + heightOf(s));
            depth = depthOf(s) + around - sAt;
            width = Math.max(width, widthOf(s));
        }
        int bX = half(width - widthOf(b));
        if (a == NONE) {
            return new Box(width, height, depth, new int[] {
                b, bX, 0, s, half(width - widthOf(s)), sAt});
        }
        int aX = half(width - widthOf(a));
        if (s == NONE) {
            return new Box(width, height, depth, new int[] {a, aX, aAt, b, bX, 0});
        }
        return new Box(width, height, depth, new int[] {
            a, aX, aAt, b, bX, 0, s, half(width - widthOf(s)), sAt});
    }

    // Brackets.

    private int bracketsLeast(int style, int x) {
        int axis = valueOf(style, AXIS);
        int m = Math.max(heightOf(x) - axis, depthOf(x) + axis);
        return Math.max(0, Math.max(m / 500 * 901, 2 * m - shortBy));
    }

    /** A box, never changed once it is made. It has one rule at most, held beside its places. */
    private static final class Box {
        final int width;
        final int height;
        final int depth;
        final int[] places;
        final int ruleWidth;
        final int ruleHeight;

        Box(int width, int height, int depth, int[] places) {
            this(width, height, depth, places, 0, 0);
        }

        Box(int width, int height, int depth, int[] places, int ruleWidth, int ruleHeight) {
            this.width = width;
            this.height = height;
            this.depth = depth;
            this.places = places;
            this.ruleWidth = ruleWidth;
            this.ruleHeight = ruleHeight;
        }
    }

    /** Boxes of a family by their numbers; it has pieces as soon as it has a repeated one. */
    private static final class Family {
        final int[] members;
        int count;
        int upper;
        int middle;
        int lower;
        int repeated;

        Family() {
            members = new int[MOST_SIGNS];
            upper = NONE;
            middle = NONE;
            lower = NONE;
            repeated = NONE;
        }
    }

    /** Boxes that are put one upon the other, from the lowest one on. */
    private static final class Pile {
        private final int[] places;
        private int filled;
        private int top;
        private int width;

        Pile(int parts) {
            places = new int[parts * PLACE];
        }

        void put(int number, Box b) {
            if (filled + PLACE > places.length) {
                return;
            }
            // The first width counts even where it is below 0.
            width = filled == 0 ? b.width : Math.max(width, b.width);
            places[filled] = number;
            places[filled + 2] = top + b.depth;
            filled += PLACE;
            top += b.height + b.depth;
        }

        Box asBox() {
            return new Box(width, top, 0, places);
        }
    }
}
