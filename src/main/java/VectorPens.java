/** A vector drawing program for strokes; the document that it keeps to is ../shared/DOC.md. */
public final class VectorPens {
    public static final int NO_SUCH = -1;
    public static final int BAD_VALUE = -2;
    public static final int NOT_POSSIBLE = -3;
    public static final int LIMIT = -4;
    public static final int BAD_TEXT = -5;
    public static final int NONE = -6;

    private static final int MAX_STROKES = 10;
    private static final int MAX_POINTS = 30;
    private static final int MAX_COORDINATE = 999;
    private static final int MAX_TOLERANCE = 200;
    private static final int MAX_REACH = 999;
    private static final int MAX_TEXT = 80;
    private static final int MAX_SAVED = 6;
    private static final int FIRST_CODE = 33;
    private static final int LAST_CODE = 126;

    // Everything is made here once and used again: a call makes no object and no array.
    private final Drawing now = new Drawing();
    private final Drawing trial = new Drawing();
    private final Stroke spare = new Stroke();
    private final History history = new History();
    private final Thinning thinning = new Thinning();
    private final Welding welding = new Welding();
    private final Text text = new Text();
    private int failure = NONE;
    private int failedStroke = NONE;
    private int failedPoint = NONE;

    public VectorPens() {
    }

    // ---- the pen

    public int down(int x, int y) {
        if (!Plane.isPlace(x, y)) {
            return BAD_VALUE;
        }
        if (now.pen.count > 0) {
            return NOT_POSSIBLE;
        }
        if (now.count >= MAX_STROKES) {
            return LIMIT;
        }
        history.save(now);
        now.pen.add(Plane.told(x, y));
        return now.count;
    }

    public int draw(int x, int y) {
        if (!Plane.isPlace(x, y)) {
            return BAD_VALUE;
        }
        if (now.pen.count == 0 || now.pen.lastPoint() == Plane.told(x, y)) {
            return NOT_POSSIBLE;
        }
        if (now.pen.count >= MAX_POINTS) {
            return LIMIT;
        }
        history.save(now);
        now.pen.add(Plane.told(x, y));
        return now.pen.count;
    }

    public int lift() {
        if (now.pen.count == 0) {
            return NOT_POSSIBLE;
        }
        boolean drawn = now.pen.count >= 2;
        if (drawn && now.count >= MAX_STROKES) {
            return LIMIT;
        }
        history.save(now);
        int made = NONE;
        if (drawn) {
            made = now.count;
            now.append(now.pen);
        }
        now.pen.empty();
        return made;
    }

    public int line() {
        return now.pen.count;
    }

    // ---- changing strokes

    public int simplify(int stroke, int tolerance) {
        Stroke s = now.find(stroke);
        if (s == null) {
            return NO_SUCH;
        }
        if (tolerance < 0 || tolerance > MAX_TOLERANCE) {
            return BAD_VALUE;
        }
        history.save(now);
        thinning.measure(s);
        thinning.thin(s, tolerance, spare);
        s.copyFrom(spare);
        return s.count;
    }

    public int weld(int reach) {
        if (reach < 1 || reach > MAX_REACH) {
            return BAD_VALUE;
        }
        history.save(now);
        return welding.weldEnds(now, reach);
    }

    public int joinAll() {
        history.save(now);
        Joining.joinEnds(now);
        return now.count;
    }

    public int move(int stroke, int dx, int dy) {
        Stroke s = now.find(stroke);
        if (s == null) {
            return NO_SUCH;
        }
        if (Math.abs((long) dx) > MAX_COORDINATE || Math.abs((long) dy) > MAX_COORDINATE) {
            return BAD_VALUE;
        }
        spare.copyFrom(s);
        for (int i = 0; i < s.count; i++) {
            int x = Plane.xOf(s.at(i)) + dx;
            int y = Plane.yOf(s.at(i)) + dy;
            if (!Plane.isPlace(x, y)) {
                return NOT_POSSIBLE;
            }
            spare.put(i, Plane.told(x, y));
        }
        history.save(now);
        s.copyFrom(spare);
        return s.firstPoint();
    }

    public int turn(int stroke, int quarters) {
        Stroke s = now.find(stroke);
        if (s == null) {
            return NO_SUCH;
        }
        if (quarters < 1 || quarters > 3) {
            return BAD_VALUE;
        }
        int midX = Plane.xOf(s.firstPoint());
        int midY = Plane.yOf(s.firstPoint());
        spare.copyFrom(s);
        for (int i = 0; i < s.count; i++) {
            int a = Plane.xOf(s.at(i)) - midX;
            int b = Plane.yOf(s.at(i)) - midY;
            int x = midX + (quarters == 1 ? -b : quarters == 2 ? -a : b);
            int y = midY + (quarters == 1 ? a : quarters == 2 ? -b : -a);
            if (!Plane.isPlace(x, y)) {
                return NOT_POSSIBLE;
            }
            spare.put(i, Plane.told(x, y));
        }
        history.save(now);
        s.copyFrom(spare);
        return s.lastPoint();
    }

    public int reverse(int stroke) {
        Stroke s = now.find(stroke);
        if (s == null) {
            return NO_SUCH;
        }
        history.save(now);
        s.turnRound();
        return s.firstPoint();
    }

    public int close(int stroke) {
        Stroke s = now.find(stroke);
        if (s == null) {
            return NO_SUCH;
        }
        if (s.closed || s.count < 3 || s.firstPoint() == s.lastPoint()) {
            return NOT_POSSIBLE;
        }
        history.save(now);
        s.closed = true;
        return s.count;
    }

    public int split(int stroke, int point) {
        Stroke s = now.find(stroke);
        if (s == null || point < 0 || point >= s.count) {
            return NO_SUCH;
        }
        if (!s.closed && (point == 0 || point == s.count - 1)) {
            return NOT_POSSIBLE;
        }
        if (s.closed ? s.count >= MAX_POINTS : now.count >= MAX_STROKES) {
            return LIMIT;
        }
        history.save(now);
        if (s.closed) {
            openAt(s, point);
        } else {
            cutAt(s, point);
        }
        return now.count;
    }

    private void openAt(Stroke s, int point) {
        spare.empty();
        for (int i = point; i < s.count; i++) {
            spare.add(s.at(i));
        }
        for (int i = 0; i <= point; i++) {
            spare.add(s.at(i));
        }
        s.copyFrom(spare);
    }

    private void cutAt(Stroke s, int point) {
        spare.empty();
        for (int i = point; i < s.count; i++) {
            spare.add(s.at(i));
        }
        s.shorten(point + 1);
        now.append(spare);
    }

    public int remove(int stroke) {
        if (now.find(stroke) == null) {
            return NO_SUCH;
        }
        history.save(now);
        now.drop(stroke);
        return now.count;
    }

    public int toTop(int stroke) {
        if (now.find(stroke) == null) {
            return NO_SUCH;
        }
        history.save(now);
        now.bringLast(stroke);
        return now.count - 1;
    }

    // ---- asking

    public int strokes() {
        return now.count;
    }

    public int of(int stroke, int what) {
        Stroke s = now.find(stroke);
        if (s == null) {
            return NO_SUCH;
        }
        if (what < 0 || what > 9) {
            return BAD_VALUE;
        }
        return Measures.figure(s, what);
    }

    public int point(int stroke, int point) {
        Stroke s = now.find(stroke);
        if (s == null || point < 0 || point >= s.count) {
            return NO_SUCH;
        }
        return s.at(point);
    }

    public int crossings(int first, int second) {
        Stroke a = now.find(first);
        Stroke b = now.find(second);
        if (a == null || b == null) {
            return NO_SUCH;
        }
        if (first == second) {
            return BAD_VALUE;
        }
        return Measures.crossingsOfTwo(a, b);
    }

    public int nearest(int x, int y) {
        if (!Plane.isPlace(x, y)) {
            return BAD_VALUE;
        }
        int place = Plane.told(x, y);
        int best = NONE;
        int least = 0;
        for (int stroke = 0; stroke < now.count; stroke++) {
            Stroke s = now.find(stroke);
            for (int i = 0; s != null && i < s.count; i++) {
                int distance = Plane.squaredDistance(place, s.at(i));
                if (best == NONE || distance < least) {
                    least = distance;
                    best = 100 * stroke + i;
                }
            }
        }
        return best;
    }

    public int isInside(int stroke, int x, int y) {
        Stroke s = now.find(stroke);
        if (s == null) {
            return NO_SUCH;
        }
        if (!Plane.isPlace(x, y)) {
            return BAD_VALUE;
        }
        if (!s.closed) {
            return NOT_POSSIBLE;
        }
        return Measures.surrounds(s, x, y) ? 1 : 0;
    }

    // ---- forecasts; they change nothing

    public int ifSimplified(int stroke, int tolerance) {
        Stroke s = now.find(stroke);
        if (s == null) {
            return NO_SUCH;
        }
        if (tolerance < 0 || tolerance > MAX_TOLERANCE) {
            return BAD_VALUE;
        }
        thinning.measure(s);
        thinning.thin(s, tolerance, spare);
        return spare.count;
    }

    public int toleranceFor(int stroke, int points) {
        Stroke s = now.find(stroke);
        if (s == null) {
            return NO_SUCH;
        }
        if (points < 2 || points > MAX_POINTS) {
            return BAD_VALUE;
        }
        thinning.measure(s);
        // A stroke that must not change at one tolerance may change at a lower one: each is tried.
        for (int tolerance = 0; tolerance <= MAX_TOLERANCE; tolerance++) {
            thinning.thin(s, tolerance, spare);
            if (spare.count <= points) {
                return tolerance;
            }
        }
        return NONE;
    }

    public int ifWelded(int reach) {
        if (reach < 1 || reach > MAX_REACH) {
            return BAD_VALUE;
        }
        trial.copyFrom(now);
        welding.weldEnds(trial, reach);
        Joining.joinEnds(trial);
        return trial.count;
    }

    // ---- text

    public int type(int code) {
        if (code < FIRST_CODE || code > LAST_CODE) {
            return BAD_VALUE;
        }
        if (text.length >= MAX_TEXT) {
            return LIMIT;
        }
        text.add((char) code);
        return text.length;
    }

    public int clearText() {
        int before = text.length;
        text.length = 0;
        return before;
    }

    public int syntaxError() {
        return text.firstError();
    }

    public int read() {
        if (text.firstError() != NONE) {
            return fail(BAD_TEXT, NONE, NONE);
        }
        if (now.pen.count > 0) {
            return fail(NOT_POSSIBLE, NONE, NONE);
        }
        text.parseInto(trial);
        for (int i = 0; i < trial.count; i++) {
            Stroke s = trial.find(i);
            int bad = s == null ? NONE : s.repeatedPoint();
            if (bad != NONE) {
                return fail(NOT_POSSIBLE, i, bad);
            }
        }
        if (now.count + trial.count > MAX_STROKES) {
            return fail(LIMIT, NONE, NONE);
        }
        history.save(now);
        for (int i = 0; i < trial.count; i++) {
            Stroke s = trial.find(i);
            if (s != null) {
                now.append(s);
            }
        }
        text.length = 0;
        return trial.count;
    }

    private int fail(int code, int stroke, int point) {
        failure = code;
        failedStroke = stroke;
        failedPoint = point;
        return code;
    }

    public int problem(int what) {
        switch (what) {
            case 0:
                return failure;
            case 1:
                return failedStroke;
            case 2:
                return failedPoint;
            default:
                return NO_SUCH;
        }
    }

    // ---- undo

    public int undo() {
        if (history.count == 0) {
            return NOT_POSSIBLE;
        }
        history.restore(now);
        return history.count;
    }

    public long digest() {
        long hash = 866;
        hash = 31 * hash + now.pen.count;
        hash = 31 * hash + now.count;
        for (int i = 0; i < now.count; i++) {
            Stroke s = now.find(i);
            for (int what = 0; s != null && what <= 9; what++) {
                hash = 31 * hash + Measures.figure(s, what);
            }
            for (int k = 0; s != null && k < s.count; k++) {
                hash = 31 * hash + s.at(k);
            }
        }
        for (int i = 0; i < now.count; i++) {
            Stroke a = now.find(i);
            for (int j = i + 1; j < now.count; j++) {
                Stroke b = now.find(j);
                if (a != null && b != null) {
                    hash = 31 * hash + Measures.crossingsOfTwo(a, b);
                }
            }
        }
        return hash;
    }

    /** Points, which are held as they are told: 1000 * x + y. */
    static final class Plane {
        static boolean isPlace(int x, int y) {
            return x >= 0 && x <= MAX_COORDINATE && y >= 0 && y <= MAX_COORDINATE;
        }

        static int told(int x, int y) {
            return 1000 * x + y;
        }

        static int xOf(int p) {
            return p / 1000;
        }

        static int yOf(int p) {
            return p % 1000;
        }

        static int squaredDistance(int p, int q) {
            int dx = xOf(p) - xOf(q);
            int dy = yOf(p) - yOf(q);
            return dx * dx + dy * dy;
        }

        /** Positive, negative or 0: the side of the line from a to b on which p lies. */
        static int cross(int a, int b, int p) {
            int ax = xOf(a);
            int ay = yOf(a);
            return (xOf(b) - ax) * (yOf(p) - ay) - (yOf(b) - ay) * (xOf(p) - ax);
        }

        static boolean piecesCross(int a, int b, int c, int d) {
            // Strictly opposite sides, twice: a touch at an end or an overlap gives a 0.
            if ((long) cross(a, b, c) * cross(a, b, d) >= 0) {
                return false;
            }
            return (long) cross(c, d, a) * cross(c, d, b) < 0;
        }

        static int root(long n) {
            long r = 0;
            for (long bit = 1L << 15; bit > 0; bit >>= 1) {
                if ((r + bit) * (r + bit) <= n) {
                    r += bit;
                }
            }
            return (int) r;
        }
    }

    /** A row of points: a stroke, or the line of the pen, which is empty while the pen is up. */
    static final class Stroke {
        private final int[] points = new int[MAX_POINTS];
        int count;
        boolean closed;

        int at(int i) {
            return i >= 0 && i < points.length ? points[i] : 0;
        }

        void put(int i, int p) {
            if (i >= 0 && i < points.length) {
                points[i] = p;
            }
        }

        void add(int p) {
            if (count >= 0 && count < points.length) {
                points[count] = p;
                count++;
            }
        }

        void empty() {
            count = 0;
            closed = false;
        }

        void shorten(int length) {
            count = Math.min(count, Math.max(length, 0));
        }

        void copyFrom(Stroke other) {
            count = other.count;
            closed = other.closed;
            for (int i = 0; i < count; i++) {
                put(i, other.at(i));
            }
        }

        int firstPoint() {
            return at(0);
        }

        int lastPoint() {
            return at(count - 1);
        }

        /** The point i, where the one behind the last is the first one again. */
        int around(int i) {
            return at(i < count ? i : 0);
        }

        int pieceCount() {
            return closed ? count : count - 1;
        }

        void turnRound() {
            for (int i = 0, j = count - 1; i < j; i++, j--) {
                int p = at(i);
                put(i, at(j));
                put(j, p);
            }
        }

        /** The first point that is equal to the one before it, the point 0 last; NONE if none is. */
        int repeatedPoint() {
            for (int i = 1; i < count; i++) {
                if (at(i) == at(i - 1)) {
                    return i;
                }
            }
            return closed && firstPoint() == lastPoint() ? 0 : NONE;
        }
    }

    /** The state that undo restores: the strokes in their order and the line of the pen. */
    static final class Drawing {
        private final Stroke[] list = new Stroke[MAX_STROKES];
        final Stroke pen = new Stroke();
        int count;

        Drawing() {
            for (int i = 0; i < list.length; i++) {
                list[i] = new Stroke();
            }
        }

        Stroke find(int i) {
            return i >= 0 && i < count && i < list.length ? list[i] : null;
        }

        void append(Stroke model) {
            if (count < 0 || count >= list.length) {
                return;
            }
            Stroke s = list[count];
            if (s != null) {
                s.copyFrom(model);
                count++;
            }
        }

        void bringLast(int i) {
            Stroke s = find(i);
            if (s == null) {
                return;
            }
            for (int k = i; k + 1 < count && k + 1 < list.length; k++) {
                list[k] = list[k + 1];
            }
            list[Math.min(count, list.length) - 1] = s;
        }

        void drop(int i) {
            if (find(i) != null) {
                // The dropped stroke's object stays in the row, behind those that count.
                bringLast(i);
                count--;
            }
        }

        void copyFrom(Drawing other) {
            count = 0;
            for (int i = 0; i < other.count; i++) {
                Stroke s = other.find(i);
                if (s != null) {
                    append(s);
                }
            }
            pen.copyFrom(other.pen);
        }
    }

    /** The saved states, the oldest one first. */
    static final class History {
        private final Drawing[] saved = new Drawing[MAX_SAVED];
        int count;

        History() {
            for (int i = 0; i < saved.length; i++) {
                saved[i] = new Drawing();
            }
        }

        void save(Drawing state) {
            if (count >= saved.length) {
                discardOldest();
            }
            Drawing slot = count >= 0 && count < saved.length ? saved[count] : null;
            if (slot != null) {
                slot.copyFrom(state);
                count++;
            }
        }

        private void discardOldest() {
            Drawing oldest = saved[0];
            for (int i = 0; i + 1 < saved.length; i++) {
                saved[i] = saved[i + 1];
            }
            saved[saved.length - 1] = oldest;
            count = saved.length - 1;
        }

        void restore(Drawing state) {
            Drawing slot = count >= 1 && count <= saved.length ? saved[count - 1] : null;
            if (slot != null) {
                state.copyFrom(slot);
                count--;
            }
        }
    }

    /** Simplifying. Each point has a level: the greatest tolerance with which it is kept, or NEVER. */
    static final class Thinning {
        private static final int NEVER = -1;
        private static final int OPEN = -2;

        // One more than a stroke's points: a closed stroke ends with its first point again.
        private final int[] levels = new int[MAX_POINTS + 1];

        /** Which point is taken in a piece does not depend on the tolerance, so one pass serves for all. */
        void measure(Stroke s) {
            int end = s.pieceCount();
            for (int i = 0; i < levels.length; i++) {
                levels[i] = OPEN;
            }
            setLevel(0, MAX_TOLERANCE);
            setLevel(end, MAX_TOLERANCE);
            if (s.closed) {
                setLevel(farthestFromFirst(s), MAX_TOLERANCE);
            }
            int a = 0;
            // Each step gives a point its level or passes one: twice the points are enough.
            for (int step = 0; step < 2 * levels.length && a < end; step++) {
                int b = nextWithLevel(a, end);
                int taken = farthestBetween(s, a, b);
                if (taken == NONE) {
                    a = b;
                } else {
                    // It is only looked at with a tolerance that keeps both ends of the piece.
                    int ends = Math.min(levelOf(a), levelOf(b));
                    setLevel(taken, Math.min(ends, ownLevel(s, a, b, taken)));
                }
            }
        }

        /** Puts what is left of the measured stroke into the result, or all of it if it must not change. */
        void thin(Stroke s, int tolerance, Stroke result) {
            result.empty();
            result.closed = s.closed;
            for (int i = 0; i < s.count; i++) {
                if (levelOf(i) >= tolerance) {
                    result.add(s.at(i));
                }
            }
            if (result.repeatedPoint() != NONE || s.closed && result.count < 3) {
                result.copyFrom(s);
            }
        }

        private int levelOf(int i) {
            return i >= 0 && i < levels.length ? levels[i] : NEVER;
        }

        private void setLevel(int i, int level) {
            if (i >= 0 && i < levels.length) {
                levels[i] = level;
            }
        }

        private int nextWithLevel(int a, int end) {
            int b = a + 1;
            while (b < end && levelOf(b) == OPEN) {
                b++;
            }
            return b;
        }

        private static int farthestFromFirst(Stroke s) {
            int best = 0;
            int greatest = 0;
            for (int i = 1; i < s.count; i++) {
                int distance = Plane.squaredDistance(s.firstPoint(), s.at(i));
                if (distance > greatest) {
                    greatest = distance;
                    best = i;
                }
            }
            return best;
        }

        private static int farthestBetween(Stroke s, int a, int b) {
            int best = NONE;
            long greatest = -1;
            for (int i = a + 1; i < b; i++) {
                long distance = squaredOffset(s.at(a), s.around(b), s.at(i));
                if (distance > greatest) {
                    greatest = distance;
                    best = i;
                }
            }
            return best;
        }

        /** The square of p's distance from the line through a and b, times the scale of a and b. */
        private static long squaredOffset(int a, int b, int p) {
            if (a == b) {
                return Plane.squaredDistance(a, p);
            }
            long cross = Plane.cross(a, b, p);
            return cross * cross;
        }

        private static long scale(int a, int b) {
            return a == b ? 1 : Plane.squaredDistance(a, b);
        }

        /** The greatest tolerance t of which t * t * scale is less than the offset. */
        private static int ownLevel(Stroke s, int a, int b, int taken) {
            long offset = squaredOffset(s.at(a), s.around(b), s.at(taken));
            long scale = scale(s.at(a), s.around(b));
            if (offset <= 0 || scale <= 0) {
                return NEVER;
            }
            return Math.min(MAX_TOLERANCE, Plane.root((offset - 1) / scale));
        }
    }

    /** Welding, on rows of the ends' own: thousands of pairs may have to be taken in one call. */
    static final class Welding {
        private static final int MAX_ENDS = 2 * MAX_STROKES;
        // Each pair that is taken makes the sum of the squares of all coordinates less by 1 at least,
        // and this sum is less than 20 * 2 * 1000 * 1000.
        private static final int MAX_WELDS = 40000000;

        // The ends 2 * k and 2 * k + 1 are those of the open stroke number k, which has sizes[2 * k] points.
        private final int[] xs = new int[MAX_ENDS];
        private final int[] ys = new int[MAX_ENDS];
        private final int[] besides = new int[MAX_ENDS];
        private final int[] sizes = new int[MAX_ENDS];
        private int count;

        int weldEnds(Drawing d, int reach) {
            takeEnds(d);
            int taken = 0;
            while (taken < MAX_WELDS && weldNearest(reach * reach)) {
                taken++;
            }
            giveEnds(d);
            return taken;
        }

        private void takeEnds(Drawing d) {
            count = 0;
            for (int i = 0; i < d.count; i++) {
                Stroke s = d.find(i);
                if (s != null && !s.closed) {
                    addEnd(s.firstPoint(), s.at(1), s.count);
                    addEnd(s.lastPoint(), s.at(s.count - 2), s.count);
                }
            }
        }

        private void addEnd(int p, int beside, int size) {
            if (count >= 0 && count < MAX_ENDS) {
                xs[count] = Plane.xOf(p);
                ys[count] = Plane.yOf(p);
                besides[count] = beside;
                sizes[count] = size;
                count++;
            }
        }

        private void giveEnds(Drawing d) {
            int end = 0;
            for (int i = 0; i < d.count; i++) {
                Stroke s = d.find(i);
                if (s != null && !s.closed && end + 1 < MAX_ENDS) {
                    s.put(0, Plane.told(xs[end], ys[end]));
                    s.put(s.count - 1, Plane.told(xs[end + 1], ys[end + 1]));
                    end += 2;
                }
            }
        }

        private boolean weldNearest(int squaredReach) {
            int n = Math.min(count, MAX_ENDS);
            int least = squaredReach + 1;
            int first = 0;
            int second = 0;
            // No distance is less than 1, and of several pairs the first one is taken.
            for (int i = 0; i < n && least > 1; i++) {
                for (int j = i + 1; j < n && least > 1; j++) {
                    int dx = xs[i] - xs[j];
                    int dy = ys[i] - ys[j];
                    int distance = dx * dx + dy * dy;
                    if (distance < least && distance > 0 && mayWeld(i, j)) {
                        least = distance;
                        first = i;
                        second = j;
                    }
                }
            }
            if (least > squaredReach) {
                return false;
            }
            int x = middle(xs[first], xs[second]);
            int y = middle(ys[first], ys[second]);
            putEnd(first, x, y);
            putEnd(second, x, y);
            return true;
        }

        private static int middle(int a, int b) {
            return (a + b) / 2;
        }

        /** For two numbers of ends that are in their range. */
        private boolean mayWeld(int i, int j) {
            if ((i >> 1) == (j >> 1) && sizes[i] < 4) {
                return false;
            }
            int p = Plane.told(middle(xs[i], xs[j]), middle(ys[i], ys[j]));
            return p != besides[i] && p != besides[j];
        }

        private void putEnd(int end, int x, int y) {
            if (end < 0 || end >= MAX_ENDS) {
                return;
            }
            xs[end] = x;
            ys[end] = y;
            int other = end ^ 1;
            // In a stroke of 2 points the ends are next to each other.
            if (sizes[end] == 2 && other < MAX_ENDS) {
                besides[other] = Plane.told(x, y);
            }
        }
    }

    /** Joining. The end 2 * k is the first point of stroke k, the end 2 * k + 1 its last one. */
    static final class Joining {
        static void joinEnds(Drawing d) {
            // Each joining leaves one open stroke less.
            for (int n = 0; n < MAX_STROKES && joinFirst(d); n++) {
                continue;
            }
        }

        private static boolean joinFirst(Drawing d) {
            for (int i = 0; i < 2 * d.count; i++) {
                for (int j = i + 1; isOpenEnd(d, i) && j < 2 * d.count; j++) {
                    boolean meet = isOpenEnd(d, j) && endOf(d, i) == endOf(d, j);
                    if (meet && ((i >> 1) == (j >> 1) ? closeUp(d, i >> 1) : joinTwo(d, i, j))) {
                        return true;
                    }
                }
            }
            return false;
        }

        private static boolean closeUp(Drawing d, int stroke) {
            Stroke s = d.find(stroke);
            if (s == null || s.count < 4) {
                return false;
            }
            s.shorten(s.count - 1);
            s.closed = true;
            return true;
        }

        private static boolean joinTwo(Drawing d, int first, int second) {
            Stroke a = d.find(first >> 1);
            Stroke b = d.find(second >> 1);
            if (a == null || b == null || a.count + b.count > MAX_POINTS + 1) {
                return false;
            }
            if ((first & 1) == 0) {
                a.turnRound();
            }
            if ((second & 1) == 1) {
                b.turnRound();
            }
            for (int i = 1; i < b.count; i++) {
                a.add(b.at(i));
            }
            d.drop(second >> 1);
            return true;
        }

        private static boolean isOpenEnd(Drawing d, int end) {
            Stroke s = d.find(end >> 1);
            return s != null && !s.closed;
        }

        private static int endOf(Drawing d, int end) {
            Stroke s = d.find(end >> 1);
            if (s == null) {
                return 0;
            }
            return (end & 1) == 0 ? s.firstPoint() : s.lastPoint();
        }
    }

    /** What is told about strokes. */
    static final class Measures {
        static int figure(Stroke s, int what) {
            switch (what) {
                case 0:
                    return s.count;
                case 1:
                    return s.closed ? 1 : 0;
                case 2:
                    return lengthOf(s);
                case 3:
                    return Math.abs(turningSum(s));
                case 4:
                    return Integer.compare(turningSum(s), 0) + 2;
                case 5:
                    return crossingsWithItself(s);
                default:
                    return bound(s, what < 8, what == 7 || what == 9);
            }
        }

        private static int lengthOf(Stroke s) {
            int sum = 0;
            for (int i = 0; i < s.pieceCount(); i++) {
                sum += Plane.root(100L * Plane.squaredDistance(s.at(i), s.around(i + 1)));
            }
            return sum;
        }

        /** The sum whose absolute value is the double area; 0 for an open stroke. */
        private static int turningSum(Stroke s) {
            int sum = 0;
            for (int i = 0; s.closed && i < s.count; i++) {
                int p = s.at(i);
                int q = s.around(i + 1);
                sum += Plane.xOf(p) * Plane.yOf(q) - Plane.xOf(q) * Plane.yOf(p);
            }
            return sum;
        }

        private static int bound(Stroke s, boolean ofX, boolean greatest) {
            int best = ofX ? Plane.xOf(s.firstPoint()) : Plane.yOf(s.firstPoint());
            for (int i = 1; i < s.count; i++) {
                int value = ofX ? Plane.xOf(s.at(i)) : Plane.yOf(s.at(i));
                best = greatest ? Math.max(best, value) : Math.min(best, value);
            }
            return best;
        }

        private static int crossingsWithItself(Stroke s) {
            int sum = 0;
            for (int i = 0; i < s.pieceCount(); i++) {
                sum += crossingsOfPiece(s.at(i), s.around(i + 1), s, i + 1);
            }
            return sum;
        }

        static int crossingsOfTwo(Stroke a, Stroke b) {
            int sum = 0;
            for (int i = 0; i < a.pieceCount(); i++) {
                sum += crossingsOfPiece(a.at(i), a.around(i + 1), b, 0);
            }
            return sum;
        }

        /** The crossings of the piece from p to q with the stroke's pieces from a number on. */
        private static int crossingsOfPiece(int p, int q, Stroke s, int from) {
            int sum = 0;
            for (int i = from; i < s.pieceCount(); i++) {
                if (Plane.piecesCross(p, q, s.at(i), s.around(i + 1))) {
                    sum++;
                }
            }
            return sum;
        }

        static boolean surrounds(Stroke s, int x, int y) {
            boolean inside = false;
            for (int i = 0; i < s.count; i++) {
                if (rayMeets(s.at(i), s.around(i + 1), x, y)) {
                    inside = !inside;
                }
            }
            return inside;
        }

        private static boolean rayMeets(int p, int q, int x, int y) {
            if ((Plane.yOf(p) <= y) == (Plane.yOf(q) <= y)) {
                return false;
            }
            // The place lies left of the piece, looked at from its lower end upward.
            int low = Plane.yOf(p) <= y ? p : q;
            int high = Plane.yOf(p) <= y ? q : p;
            return Plane.cross(low, high, Plane.told(x, y)) > 0;
        }
    }

    /** The text, and the form that a drawing text has. */
    static final class Text {
        private static final int REFUSED = -1;
        private static final int BEFORE_X = 0;
        private static final int LAST_OF_X = 3;
        private static final int BEFORE_Y = 4;
        private static final int LAST_OF_Y = 7;
        private static final int BEHIND_Z = 8;

        private final char[] signs = new char[MAX_TEXT];
        private final Stroke reading = new Stroke();
        int length;

        void add(char sign) {
            if (length >= 0 && length < signs.length) {
                signs[length] = sign;
                length++;
            }
        }

        private char signAt(int i) {
            return i >= 0 && i < signs.length ? signs[i] : 0;
        }

        private static boolean isDigit(char sign) {
            return sign >= '0' && sign <= '9';
        }

        int firstError() {
            int state = BEFORE_X;
            int points = 1;
            for (int i = 0; i < length; i++) {
                char sign = signAt(i);
                state = nextState(state, sign, points);
                if (state == REFUSED) {
                    return i;
                }
                if (sign == '-') {
                    points++;
                } else if (sign == ';') {
                    points = 1;
                }
            }
            return state > BEFORE_Y && points >= 2 ? NONE : length;
        }

        /** The states between BEFORE_X and LAST_OF_X, BEFORE_Y and LAST_OF_Y count the digits of a number. */
        private static int nextState(int state, char sign, int points) {
            if (isDigit(sign)) {
                return state == LAST_OF_X || state >= LAST_OF_Y ? REFUSED : state + 1;
            }
            if (sign == ',') {
                return state > BEFORE_X && state <= LAST_OF_X ? BEFORE_Y : REFUSED;
            }
            if (state <= BEFORE_Y) {
                return REFUSED;
            }
            if (sign == ';') {
                return points >= 2 ? BEFORE_X : REFUSED;
            }
            if (state == BEHIND_Z) {
                return REFUSED;
            }
            if (sign == '-') {
                return BEFORE_X;
            }
            return sign == 'z' && points >= 3 ? BEHIND_Z : REFUSED;
        }

        /** Puts the strokes of a text without errors into an emptied drawing. */
        void parseInto(Drawing target) {
            target.count = 0;
            reading.empty();
            int x = 0;
            int number = 0;
            for (int i = 0; i < length; i++) {
                char sign = signAt(i);
                if (isDigit(sign)) {
                    number = 10 * number + (sign - '0');
                    continue;
                }
                if (sign == ',') {
                    x = number;
                } else if (!reading.closed) {
                    reading.add(Plane.told(x, number));
                    reading.closed = sign == 'z';
                }
                number = 0;
                if (sign == ';') {
                    target.append(reading);
                    reading.empty();
                }
            }
            if (!reading.closed) {
                reading.add(Plane.told(x, number));
            }
            target.append(reading);
        }
    }
}
