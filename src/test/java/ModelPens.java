import java.math.BigInteger;
import java.util.ArrayDeque;
import java.util.ArrayList;
import java.util.Deque;
import java.util.List;
import java.util.regex.Pattern;

/**
 * The document once more, in its own words and in other ways than the program's (lists, recursion,
 * fractions, regular expressions), so that both can be compared call by call.
 */
final class ModelPens {
    record P(int x, int y) {
        boolean ok() {
            return x >= 0 && x < 1000 && y >= 0 && y < 1000;
        }

        int told() {
            return 1000 * x + y;
        }

        long far2(P q) {
            return (long) (x - q.x) * (x - q.x) + (long) (y - q.y) * (y - q.y);
        }
    }

    record S(List<P> points, boolean closed) {
        S copy() {
            return new S(new ArrayList<>(points), closed);
        }

        int n() {
            return points.size();
        }

        P first() {
            return points.get(0);
        }

        P last() {
            return points.get(n() - 1);
        }

        List<P[]> pieces() {
            List<P[]> all = new ArrayList<>();
            for (int i = 0; i + 1 < n(); i++) {
                all.add(new P[] {points.get(i), points.get(i + 1)});
            }
            if (closed) {
                all.add(new P[] {last(), first()});
            }
            return all;
        }
    }

    record State(List<S> strokes, List<P> line) {
        State copy() {
            List<S> all = new ArrayList<>();
            for (S s : strokes) {
                all.add(s.copy());
            }
            return new State(all, line == null ? null : new ArrayList<>(line));
        }
    }

    private static final String POINT = "[0-9]{1,3},[0-9]{1,3}";
    private static final String STROKE =
        "(" + POINT + "(-" + POINT + ")+|" + POINT + "(-" + POINT + "){2,}z)";
    private static final Pattern DRAWING = Pattern.compile(STROKE + "(;" + STROKE + ")*");
    private static final String[] COMPLETIONS = {"", "0,0-0,0", ",0-0,0", "0-0,0", "-0,0"};

    private State now = new State(new ArrayList<>(), null);
    private final Deque<State> saved = new ArrayDeque<>();
    private String text = "";
    private int[] problem = {-6, -6, -6};

    private void save() {
        if (saved.size() == 6) {
            saved.removeLast();
        }
        saved.push(now.copy());
    }

    private boolean none(int stroke) {
        return stroke < 0 || stroke >= now.strokes.size();
    }

    int down(int x, int y) {
        P p = new P(x, y);
        if (!p.ok()) {
            return -2;
        }
        if (now.line != null) {
            return -3;
        }
        if (now.strokes.size() == 10) {
            return -4;
        }
        save();
        now = new State(now.strokes, new ArrayList<>(List.of(p)));
        return now.strokes.size();
    }

    int draw(int x, int y) {
        P p = new P(x, y);
        if (!p.ok()) {
            return -2;
        }
        if (now.line == null || now.line.get(now.line.size() - 1).equals(p)) {
            return -3;
        }
        if (now.line.size() == 30) {
            return -4;
        }
        save();
        now.line.add(p);
        return now.line.size();
    }

    int lift() {
        if (now.line == null) {
            return -3;
        }
        if (now.strokes.size() == 10 && now.line.size() >= 2) {
            return -4;
        }
        save();
        int made = -6;
        if (now.line.size() >= 2) {
            now.strokes.add(new S(now.line, false));
            made = now.strokes.size() - 1;
        }
        now = new State(now.strokes, null);
        return made;
    }

    int line() {
        return now.line == null ? 0 : now.line.size();
    }

    private static void keepBetween(List<P> row, int a, int b, int t, boolean[] kept) {
        P p = row.get(a);
        P q = row.get(b);
        BigInteger greatest = BigInteger.valueOf(-1);
        int taken = -1;
        for (int i = a + 1; i < b; i++) {
            P m = row.get(i);
            BigInteger far;
            if (p.equals(q)) {
                far = BigInteger.valueOf(m.far2(p));
            } else {
                // Twice the triangle's area, as its height is compared on the same base.
                long area = (long) p.x * (q.y - m.y) + (long) q.x * (m.y - p.y) + (long) m.x * (p.y - q.y);
                far = BigInteger.valueOf(area).pow(2);
            }
            if (far.compareTo(greatest) > 0) {
                greatest = far;
                taken = i;
            }
        }
        if (taken < 0) {
            return;
        }
        BigInteger base = BigInteger.valueOf(p.equals(q) ? 1 : p.far2(q));
        if (greatest.compareTo(BigInteger.valueOf(t).pow(2).multiply(base)) > 0) {
            kept[taken] = true;
            keepBetween(row, a, taken, t, kept);
            keepBetween(row, taken, b, t, kept);
        }
    }

    private static S simplified(S s, int t) {
        List<P> row = new ArrayList<>(s.points);
        if (s.closed) {
            row.add(s.first());
        }
        boolean[] kept = new boolean[row.size()];
        kept[0] = true;
        kept[row.size() - 1] = true;
        if (s.closed) {
            int far = 0;
            for (int i = 1; i < s.n(); i++) {
                if (s.points.get(i).far2(s.first()) > s.points.get(far).far2(s.first())) {
                    far = i;
                }
            }
            kept[far] = true;
            keepBetween(row, 0, far, t, kept);
            keepBetween(row, far, row.size() - 1, t, kept);
        } else {
            keepBetween(row, 0, row.size() - 1, t, kept);
        }
        S then = new S(new ArrayList<>(), s.closed);
        for (int i = 0; i < s.n(); i++) {
            if (kept[i]) {
                then.points.add(s.points.get(i));
            }
        }
        boolean bad = s.closed && (then.n() < 3 || then.first().equals(then.last()));
        for (int i = 0; i + 1 < then.n(); i++) {
            bad |= then.points.get(i).equals(then.points.get(i + 1));
        }
        return bad ? s : then;
    }

    int simplify(int stroke, int t) {
        int then = ifSimplified(stroke, t);
        if (then >= 0) {
            save();
            now.strokes.set(stroke, simplified(now.strokes.get(stroke), t).copy());
        }
        return then;
    }

    int ifSimplified(int stroke, int t) {
        if (none(stroke)) {
            return -1;
        }
        if (t < 0 || t > 200) {
            return -2;
        }
        return simplified(now.strokes.get(stroke), t).n();
    }

    int toleranceFor(int stroke, int points) {
        if (none(stroke)) {
            return -1;
        }
        if (points < 2 || points > 30) {
            return -2;
        }
        for (int t = 0; t <= 200; t++) {
            if (simplified(now.strokes.get(stroke), t).n() <= points) {
                return t;
            }
        }
        return -6;
    }

    /** An end: the stroke, its index in it, and the index of the point next to it. */
    private record End(S s, int at, int beside) {
        P p() {
            return s.points.get(at);
        }

        P next() {
            return s.points.get(beside);
        }
    }

    private static List<End> ends(List<S> strokes) {
        List<End> all = new ArrayList<>();
        for (S s : strokes) {
            if (!s.closed) {
                all.add(new End(s, 0, 1));
                all.add(new End(s, s.n() - 1, s.n() - 2));
            }
        }
        return all;
    }

    private static int weldAll(List<S> strokes, int reach) {
        int count = 0;
        while (true) {
            List<End> all = ends(strokes);
            End[] pair = null;
            long least = Long.MAX_VALUE;
            for (int i = 0; i < all.size(); i++) {
                for (int j = i + 1; j < all.size(); j++) {
                    End a = all.get(i);
                    End b = all.get(j);
                    P mid = new P((a.p().x + b.p().x) / 2, (a.p().y + b.p().y) / 2);
                    long far = a.p().far2(b.p());
                    if (far == 0 || far > (long) reach * reach || far >= least) {
                        continue;
                    }
                    if (a.s == b.s && a.s.n() < 4 || mid.equals(a.next()) || mid.equals(b.next())) {
                        continue;
                    }
                    least = far;
                    pair = new End[] {a, b};
                }
            }
            if (pair == null) {
                return count;
            }
            P mid = new P((pair[0].p().x + pair[1].p().x) / 2, (pair[0].p().y + pair[1].p().y) / 2);
            pair[0].s.points.set(pair[0].at, mid);
            pair[1].s.points.set(pair[1].at, mid);
            count++;
        }
    }

    private static List<P> reversed(List<P> row) {
        List<P> back = new ArrayList<>();
        for (P p : row) {
            back.add(0, p);
        }
        return back;
    }

    private static boolean joinOne(List<S> strokes) {
        List<End> all = ends(strokes);
        for (int i = 0; i < all.size(); i++) {
            for (int j = i + 1; j < all.size(); j++) {
                End a = all.get(i);
                End b = all.get(j);
                if (!a.p().equals(b.p())) {
                    continue;
                }
                int at = indexOf(strokes, a.s);
                if (a.s == b.s && a.s.n() >= 4) {
                    strokes.set(at, new S(new ArrayList<>(a.s.points.subList(0, a.s.n() - 1)), true));
                    return true;
                }
                if (a.s != b.s && a.s.n() + b.s.n() <= 31) {
                    List<P> row = a.at == 0 ? reversed(a.s.points) : new ArrayList<>(a.s.points);
                    List<P> tail = b.at == 0 ? b.s.points : reversed(b.s.points);
                    row.addAll(tail.subList(1, tail.size()));
                    int gone = indexOf(strokes, b.s);
                    strokes.set(at, new S(row, false));
                    strokes.remove(gone);
                    return true;
                }
            }
        }
        return false;
    }

    private static int indexOf(List<S> strokes, S s) {
        for (int i = 0; i < strokes.size(); i++) {
            if (strokes.get(i) == s) {
                return i;
            }
        }
        throw new IllegalStateException();
    }

    private static void joinStrokes(List<S> strokes) {
        while (joinOne(strokes)) {
            continue;
        }
    }

    int weld(int reach) {
        if (reach < 1 || reach > 999) {
            return -2;
        }
        save();
        return weldAll(now.strokes, reach);
    }

    int ifWelded(int reach) {
        if (reach < 1 || reach > 999) {
            return -2;
        }
        State then = now.copy();
        weldAll(then.strokes, reach);
        joinStrokes(then.strokes);
        return then.strokes.size();
    }

    int joinAll() {
        save();
        joinStrokes(now.strokes);
        return now.strokes.size();
    }

    private boolean putAll(int stroke, List<P> row) {
        for (P p : row) {
            if (!p.ok()) {
                return false;
            }
        }
        save();
        now.strokes.set(stroke, new S(row, now.strokes.get(stroke).closed));
        return true;
    }

    int move(int stroke, int dx, int dy) {
        if (none(stroke)) {
            return -1;
        }
        if (dx < -999 || dx > 999 || dy < -999 || dy > 999) {
            return -2;
        }
        List<P> row = new ArrayList<>();
        for (P p : now.strokes.get(stroke).points) {
            row.add(new P(p.x + dx, p.y + dy));
        }
        return putAll(stroke, row) ? row.get(0).told() : -3;
    }

    int turn(int stroke, int quarters) {
        if (none(stroke)) {
            return -1;
        }
        if (quarters < 1 || quarters > 3) {
            return -2;
        }
        P mid = now.strokes.get(stroke).first();
        List<P> row = new ArrayList<>();
        for (P p : now.strokes.get(stroke).points) {
            P q = p;
            for (int k = 0; k < quarters; k++) {
                q = new P(mid.x - (q.y - mid.y), mid.y + (q.x - mid.x));
            }
            row.add(q);
        }
        return putAll(stroke, row) ? row.get(row.size() - 1).told() : -3;
    }

    int reverse(int stroke) {
        if (none(stroke)) {
            return -1;
        }
        List<P> row = reversed(now.strokes.get(stroke).points);
        putAll(stroke, row);
        return row.get(0).told();
    }

    int close(int stroke) {
        if (none(stroke)) {
            return -1;
        }
        S s = now.strokes.get(stroke);
        if (s.closed || s.n() < 3 || s.first().equals(s.last())) {
            return -3;
        }
        save();
        now.strokes.set(stroke, new S(s.points, true));
        return s.n();
    }

    int split(int stroke, int point) {
        if (none(stroke) || point < 0 || point >= now.strokes.get(stroke).n()) {
            return -1;
        }
        S s = now.strokes.get(stroke);
        if (s.closed) {
            if (s.n() == 30) {
                return -4;
            }
            save();
            List<P> row = new ArrayList<>();
            for (int k = 0; k <= s.n(); k++) {
                row.add(s.points.get((point + k) % s.n()));
            }
            now.strokes.set(stroke, new S(row, false));
            return now.strokes.size();
        }
        if (point == 0 || point == s.n() - 1) {
            return -3;
        }
        if (now.strokes.size() == 10) {
            return -4;
        }
        save();
        now.strokes.set(stroke, new S(new ArrayList<>(s.points.subList(0, point + 1)), false));
        now.strokes.add(new S(new ArrayList<>(s.points.subList(point, s.n())), false));
        return now.strokes.size();
    }

    int remove(int stroke) {
        if (none(stroke)) {
            return -1;
        }
        save();
        now.strokes.remove(stroke);
        return now.strokes.size();
    }

    int toTop(int stroke) {
        if (none(stroke)) {
            return -1;
        }
        save();
        now.strokes.add(now.strokes.remove(stroke));
        return now.strokes.size() - 1;
    }

    int strokes() {
        return now.strokes.size();
    }

    private static boolean cross(P[] a, P[] b) {
        long rx = a[1].x - a[0].x;
        long ry = a[1].y - a[0].y;
        long sx = b[1].x - b[0].x;
        long sy = b[1].y - b[0].y;
        long below = rx * sy - ry * sx;
        if (below == 0) {
            return false;
        }
        long dx = b[0].x - a[0].x;
        long dy = b[0].y - a[0].y;
        long t = dx * sy - dy * sx;
        long u = dx * ry - dy * rx;
        if (below < 0) {
            below = -below;
            t = -t;
            u = -u;
        }
        return t > 0 && t < below && u > 0 && u < below;
    }

    private static int selfCrossings(S s) {
        List<P[]> all = s.pieces();
        int sum = 0;
        for (int i = 0; i < all.size(); i++) {
            for (int j = 0; j < i; j++) {
                sum += cross(all.get(i), all.get(j)) ? 1 : 0;
            }
        }
        return sum;
    }

    int crossings(int first, int second) {
        if (none(first) || none(second)) {
            return -1;
        }
        if (first == second) {
            return -2;
        }
        int sum = 0;
        for (P[] a : now.strokes.get(first).pieces()) {
            for (P[] b : now.strokes.get(second).pieces()) {
                sum += cross(a, b) ? 1 : 0;
            }
        }
        return sum;
    }

    private static long area(S s) {
        long sum = 0;
        if (s.closed) {
            for (P[] a : s.pieces()) {
                sum += (long) a[0].x * a[1].y - (long) a[1].x * a[0].y;
            }
        }
        return sum;
    }

    int of(int stroke, int what) {
        if (none(stroke)) {
            return -1;
        }
        S s = now.strokes.get(stroke);
        switch (what) {
            case 0:
                return s.n();
            case 1:
                return s.closed ? 1 : 0;
            case 2:
                int sum = 0;
                for (P[] a : s.pieces()) {
                    sum += BigInteger.valueOf(100 * a[0].far2(a[1])).sqrt().intValueExact();
                }
                return sum;
            case 3:
                return (int) Math.abs(area(s));
            case 4:
                return Long.signum(area(s)) + 2;
            case 5:
                return selfCrossings(s);
            case 6:
                return s.points.stream().mapToInt(P::x).min().getAsInt();
            case 7:
                return s.points.stream().mapToInt(P::x).max().getAsInt();
            case 8:
                return s.points.stream().mapToInt(P::y).min().getAsInt();
            case 9:
                return s.points.stream().mapToInt(P::y).max().getAsInt();
            default:
                return -2;
        }
    }

    int point(int stroke, int point) {
        if (none(stroke) || point < 0 || point >= now.strokes.get(stroke).n()) {
            return -1;
        }
        return now.strokes.get(stroke).points.get(point).told();
    }

    int nearest(int x, int y) {
        P p = new P(x, y);
        if (!p.ok()) {
            return -2;
        }
        long least = Long.MAX_VALUE;
        int best = -6;
        for (int k = now.strokes.size() - 1; k >= 0; k--) {
            for (int i = now.strokes.get(k).n() - 1; i >= 0; i--) {
                long far = now.strokes.get(k).points.get(i).far2(p);
                if (far <= least) {
                    least = far;
                    best = 100 * k + i;
                }
            }
        }
        return best;
    }

    int isInside(int stroke, int x, int y) {
        if (none(stroke)) {
            return -1;
        }
        if (!new P(x, y).ok()) {
            return -2;
        }
        if (!now.strokes.get(stroke).closed) {
            return -3;
        }
        int count = 0;
        for (P[] a : now.strokes.get(stroke).pieces()) {
            boolean upward = a[0].y <= y && a[1].y > y;
            boolean downward = a[1].y <= y && a[0].y > y;
            if (upward || downward) {
                // x of the piece at y is a[0].x + over / below, with below made positive.
                long below = a[1].y - a[0].y;
                long over = (long) (y - a[0].y) * (a[1].x - a[0].x);
                if (below < 0) {
                    below = -below;
                    over = -over;
                }
                count += a[0].x * below + over > x * below ? 1 : 0;
            }
        }
        return count % 2;
    }

    int type(int code) {
        if (code < 33 || code > 126) {
            return -2;
        }
        if (text.length() == 80) {
            return -4;
        }
        text += (char) code;
        return text.length();
    }

    int clearText() {
        int before = text.length();
        text = "";
        return before;
    }

    private static boolean isDrawing(String t) {
        return DRAWING.matcher(t).matches();
    }

    int syntaxError() {
        if (isDrawing(text)) {
            return -6;
        }
        for (int i = 0; i < text.length(); i++) {
            boolean begun = false;
            for (String rest : COMPLETIONS) {
                begun |= isDrawing(text.substring(0, i + 1) + rest);
            }
            if (!begun) {
                return i;
            }
        }
        return text.length();
    }

    int read() {
        int[] said = tryRead();
        if (said[0] < 0) {
            problem = said;
        }
        return said[0];
    }

    private int[] tryRead() {
        if (!isDrawing(text)) {
            return new int[] {-5, -6, -6};
        }
        if (now.line != null) {
            return new int[] {-3, -6, -6};
        }
        List<S> more = new ArrayList<>();
        for (String part : text.split(";")) {
            boolean closed = part.endsWith("z");
            List<P> row = new ArrayList<>();
            for (String p : part.replace("z", "").split("-")) {
                String[] xy = p.split(",");
                row.add(new P(Integer.parseInt(xy[0]), Integer.parseInt(xy[1])));
            }
            for (int i = 1; i < row.size(); i++) {
                if (row.get(i).equals(row.get(i - 1))) {
                    return new int[] {-3, more.size(), i};
                }
            }
            S s = new S(row, closed);
            if (closed && s.first().equals(s.last())) {
                return new int[] {-3, more.size(), 0};
            }
            more.add(s);
        }
        if (now.strokes.size() + more.size() > 10) {
            return new int[] {-4, -6, -6};
        }
        save();
        now.strokes.addAll(more);
        text = "";
        return new int[] {more.size(), 0, 0};
    }

    int problem(int what) {
        return what < 0 || what > 2 ? -1 : problem[what];
    }

    int undo() {
        if (saved.isEmpty()) {
            return -3;
        }
        now = saved.pop();
        return saved.size();
    }

    long digest() {
        List<Long> values = new ArrayList<>();
        values.add((long) line());
        values.add((long) strokes());
        for (int k = 0; k < strokes(); k++) {
            for (int what = 0; what < 10; what++) {
                values.add((long) of(k, what));
            }
            for (P p : now.strokes.get(k).points) {
                values.add((long) p.told());
            }
        }
        for (int i = 0; i < strokes(); i++) {
            for (int j = i + 1; j < strokes(); j++) {
                values.add((long) crossings(i, j));
            }
        }
        BigInteger hash = BigInteger.valueOf(866);
        for (long v : values) {
            hash = hash.multiply(BigInteger.valueOf(31)).add(BigInteger.valueOf(v));
        }
        return hash.longValue();
    }
}
