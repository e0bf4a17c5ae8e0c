/** Runs of calls, drawn by a counter of its own, on the program and on the model of the document. */
final class ModelTest {
    private static final int RUNS = 700;
    private static final int CALLS = 512;
    private static final int LONGEST_TEXT = 84;
    // With each character syntaxError() may be asked, and each call of a kind may be the most expensive one in calls.
    private static final int READING = 2 * LONGEST_TEXT + 10;
    private static final int DRAWING = 40;
    private static final int CHANGING = 2;
    private static final int UNDOING = 14;
    private static final int[] SIZES = {2, 4, 8, 20, 60, 250, 1000};

    private final VectorPens pens = new VectorPens();
    private final ModelPens model = new ModelPens();
    private final int run;
    private final int size;
    private final int style;
    private long seed;
    private int calls;

    private ModelTest(int run) {
        this.run = run;
        this.seed = run * 7919L + 17;
        this.size = SIZES[run % SIZES.length];
        this.style = run / SIZES.length % 4;
    }

    private int upTo(int bound) {
        seed = seed * 6364136223846793005L + 1442695040888963407L;
        return (int) ((seed >>> 33) % bound);
    }

    private int place() {
        if (upTo(60) == 0) {
            int[] outside = {-1, 1000, Integer.MIN_VALUE, Integer.MAX_VALUE};
            return outside[upTo(outside.length)];
        }
        return upTo(25) == 0 ? upTo(1000) : Math.min(999, upTo(size));
    }

    private int stroke() {
        int[] outside = {-1, model.strokes(), Integer.MIN_VALUE, Integer.MAX_VALUE};
        int odd = upTo(15 * outside.length);
        if (odd < outside.length) {
            return outside[odd];
        }
        return upTo(Math.max(1, model.strokes()));
    }

    private int reach() {
        int[] edges = {0, 1, 2, 3, 999, 1000, Integer.MIN_VALUE, Integer.MAX_VALUE};
        return upTo(4) == 0 ? edges[upTo(edges.length)] : 1 + upTo(Math.min(999, size));
    }

    private int tolerance() {
        int[] edges = {-1, 0, 1, 200, 201, Integer.MIN_VALUE, Integer.MAX_VALUE};
        return upTo(5) == 0 ? edges[upTo(edges.length)] : upTo(Math.min(201, size));
    }

    private int shift() {
        int[] edges = {-999, 999, -1000, 1000, Integer.MIN_VALUE, Integer.MAX_VALUE};
        return upTo(12) == 0 ? edges[upTo(edges.length)] : upTo(2 * size) - size;
    }

    private void same(String call, long got, long want) {
        calls++;
        Check.due("run " + run + " call " + calls + " " + call, got, want);
    }

    private void typeAll(String t) {
        for (int i = 0; i < t.length(); i++) {
            int code = t.charAt(i);
            same("type(" + code + ")", pens.type(code), model.type(code));
            if (upTo(6) == 0) {
                same("syntaxError()", pens.syntaxError(), model.syntaxError());
            }
        }
        same("syntaxError()", pens.syntaxError(), model.syntaxError());
        int what = upTo(6) - 1;
        same("problem(" + what + ")", pens.problem(what), model.problem(what));
    }

    private String number() {
        String n = Integer.toString(Math.max(0, Math.min(999, place())));
        while (n.length() < 3 && upTo(8) == 0) {
            n = "0" + n;
        }
        return n;
    }

    private String drawing() {
        StringBuilder t = new StringBuilder();
        int strokes = 1 + upTo(upTo(3) == 0 ? 10 : 3);
        for (int k = 0; k < strokes; k++) {
            int points = 2 + upTo(upTo(4) == 0 ? 12 : 4);
            t.append(k == 0 ? "" : ";");
            for (int i = 0; i < points; i++) {
                t.append(i == 0 ? "" : "-").append(number()).append(',').append(number());
            }
            t.append(points >= 3 && upTo(2) == 0 ? "z" : "");
        }
        while (upTo(3) == 0) {
            String wrong = "0123456789,;-z! Z/:~";
            int at = upTo(t.length());
            if (upTo(2) == 0) {
                t.setCharAt(at, wrong.charAt(upTo(wrong.length())));
            } else {
                t.insert(at, wrong.charAt(upTo(wrong.length())));
            }
        }
        return t.substring(0, Math.min(LONGEST_TEXT, t.length()));
    }

    private void readSome() {
        String t = drawing();
        if (upTo(3) != 0 && t.length() > 80) {
            int cut = t.lastIndexOf(';', 80);
            t = cut > 0 ? t.substring(0, cut) : t;
        }
        typeAll(t);
        same("read()", pens.read(), model.read());
        for (int what = 0; what < 3; what++) {
            same("problem(" + what + ")", pens.problem(what), model.problem(what));
        }
        if (upTo(3) != 0) {
            same("clearText()", pens.clearText(), model.clearText());
        }
    }

    private void drawSome() {
        int x = place();
        int y = place();
        same("down(" + x + ", " + y + ")", pens.down(x, y), model.down(x, y));
        int n = upTo(4) == 0 ? upTo(36) : upTo(7);
        for (int i = 0; i < n; i++) {
            int toX = place();
            int toY = upTo(6) == 0 ? y : place();
            same("draw(" + toX + ", " + toY + ")", pens.draw(toX, toY), model.draw(toX, toY));
        }
        if (upTo(5) != 0) {
            same("lift()", pens.lift(), model.lift());
        }
        same("line()", pens.line(), model.line());
    }

    private void change() {
        int s = stroke();
        switch (upTo(11)) {
            case 0 -> {
                int t = tolerance();
                same("simplify(" + s + ", " + t + ")", pens.simplify(s, t), model.simplify(s, t));
            }
            case 1 -> {
                int r = reach();
                same("weld(" + r + ")", pens.weld(r), model.weld(r));
            }
            case 2 -> same("joinAll()", pens.joinAll(), model.joinAll());
            case 3 -> {
                int dx = shift();
                int dy = shift();
                same("move(" + s + ", " + dx + ", " + dy + ")", pens.move(s, dx, dy), model.move(s, dx, dy));
            }
            case 4 -> {
                int q = upTo(5);
                same("turn(" + s + ", " + q + ")", pens.turn(s, q), model.turn(s, q));
            }
            case 5 -> same("reverse(" + s + ")", pens.reverse(s), model.reverse(s));
            case 6 -> same("close(" + s + ")", pens.close(s), model.close(s));
            case 7 -> {
                int p = upTo(2) == 0 ? upTo(5) : upTo(33) - 1;
                same("split(" + s + ", " + p + ")", pens.split(s, p), model.split(s, p));
            }
            case 8 -> {
                if (upTo(3) == 0) {
                    same("remove(" + s + ")", pens.remove(s), model.remove(s));
                }
            }
            case 9 -> same("toTop(" + s + ")", pens.toTop(s), model.toTop(s));
            default -> same("undo()", pens.undo(), model.undo());
        }
    }

    private void ask() {
        int s = stroke();
        int x = place();
        int y = place();
        switch (upTo(10)) {
            case 0 -> {
                int what = upTo(13) - 1;
                same("of(" + s + ", " + what + ")", pens.of(s, what), model.of(s, what));
            }
            case 1 -> {
                int p = upTo(32) - 1;
                same("point(" + s + ", " + p + ")", pens.point(s, p), model.point(s, p));
            }
            case 2 -> {
                int other = stroke();
                same("crossings(" + s + ", " + other + ")", pens.crossings(s, other), model.crossings(s, other));
            }
            case 3 -> same("nearest(" + x + ", " + y + ")", pens.nearest(x, y), model.nearest(x, y));
            case 4, 5 -> same("isInside(" + s + ", " + x + ", " + y + ")", pens.isInside(s, x, y), model.isInside(s, x, y));
            case 6 -> {
                int t = tolerance();
                same("ifSimplified(" + s + ", " + t + ")", pens.ifSimplified(s, t), model.ifSimplified(s, t));
            }
            case 7 -> {
                int p = upTo(6) == 0 ? upTo(34) : 2 + upTo(8);
                same("toleranceFor(" + s + ", " + p + ")", pens.toleranceFor(s, p), model.toleranceFor(s, p));
            }
            case 8 -> {
                int r = reach();
                same("ifWelded(" + r + ")", pens.ifWelded(r), model.ifWelded(r));
            }
            default -> same("strokes()", pens.strokes(), model.strokes());
        }
    }

    private void play() {
        // What a call beyond the last one answers is free, so a kind is only begun if all its calls are left.
        for (int left = CALLS - UNDOING; left >= CHANGING && !Check.failedYet(); left = CALLS - UNDOING - calls) {
            int kind = upTo(20);
            if (kind < (style == 0 ? 2 : 1) && left >= READING) {
                readSome();
            } else if (kind < (style == 1 ? 10 : 3) && left >= DRAWING) {
                drawSome();
            } else if (kind < (style == 2 ? 8 : 13)) {
                change();
                same("digest()", pens.digest(), model.digest());
            } else {
                ask();
            }
        }
        for (int i = 0; i < 7; i++) {
            same("undo()", pens.undo(), model.undo());
            same("digest()", pens.digest(), model.digest());
        }
    }

    public static void main(String[] args) {
        int runs = args.length > 0 ? Integer.parseInt(args[0]) : RUNS;
        for (int run = 0; run < runs && !Check.failedYet(); run++) {
            new ModelTest(run).play();
        }
        Check.end("ModelTest");
    }
}
