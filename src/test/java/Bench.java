import java.util.ArrayList;
import java.util.List;
import java.util.function.Supplier;
import java.util.function.ToLongBiFunction;
import java.util.function.ToLongFunction;

/** What the tests share: the codes, drawings made from texts, and calls that may leave no trace. */
class Bench {
    static final int NO_SUCH = VectorPens.NO_SUCH;
    static final int BAD_VALUE = VectorPens.BAD_VALUE;
    static final int NOT_POSSIBLE = VectorPens.NOT_POSSIBLE;
    static final int LIMIT = VectorPens.LIMIT;
    static final int BAD_TEXT = VectorPens.BAD_TEXT;
    static final int NONE = VectorPens.NONE;
    static final int MIN = Integer.MIN_VALUE;
    static final int MAX = Integer.MAX_VALUE;
    static final String SQUARE = "10,10-20,10-20,20-10,20z";

    private static String tested = "";

    static void run(String name, Runnable test) {
        tested = name;
        test.run();
    }

    static void due(String call, long got, long want) {
        Check.due(tested + ": " + call, got, want);
    }

    static void holds(String what, boolean so) {
        Check.holds(tested + ": " + what, so);
    }

    static void type(VectorPens x, String text) {
        x.clearText();
        for (int i = 0; i < text.length(); i++) {
            x.type(text.charAt(i));
        }
    }

    static VectorPens typed(String text) {
        VectorPens x = new VectorPens();
        type(x, text);
        return x;
    }

    static VectorPens drawn(String... texts) {
        VectorPens x = new VectorPens();
        for (String text : texts) {
            type(x, text);
            holds("it can be read: " + text, x.read() > 0);
        }
        return x;
    }

    /** Draws a stroke of so many points, from (0, y) on: a zigzag between y and y + 1. */
    static void zigzag(VectorPens x, int points, int y) {
        x.down(0, y);
        for (int i = 1; i < points; i++) {
            x.draw(i, y + i % 2);
        }
        x.lift();
    }

    /** A line of so many points, which the pen still draws; the last one is (points, 5). */
    static VectorPens penDown(int points) {
        VectorPens x = new VectorPens();
        x.down(1, 5);
        for (int i = 2; i <= points; i++) {
            x.draw(i, 5);
        }
        return x;
    }

    static void points(VectorPens x, int stroke, int... want) {
        due("of(" + stroke + ", 0)", x.of(stroke, 0), want.length);
        for (int i = 0; i < want.length; i++) {
            due("point(" + stroke + ", " + i + ")", x.point(stroke, i), want[i]);
        }
    }

    static void figures(VectorPens x, int stroke, int... want) {
        for (int what = 0; what < want.length; what++) {
            due("of(" + stroke + ", " + what + ")", x.of(stroke, what), want[what]);
        }
    }

    static void problems(VectorPens x, int... want) {
        for (int what = 0; what < want.length; what++) {
            due("problem(" + what + ")", x.problem(what), want[what]);
        }
    }

    static VectorPens nine() {
        return drawn("0,0-1,1;1,0-2,1;2,0-3,1;3,0-4,1;4,0-5,1", "5,0-6,1;6,0-7,1;7,0-8,1;8,0-9,1");
    }

    static VectorPens full() {
        VectorPens x = drawn("0,0-1,1;1,0-2,1;2,0-3,1;3,0-4,1;4,0-5,1", "5,0-6,1;6,0-7,1;7,0-8,1;8,0-9,1;9,0-10,1");
        due("strokes() of a full drawing", x.strokes(), 10);
        return x;
    }

    /** Ten strokes, the tenth of which came from a split while the pen was down with one point. */
    static VectorPens tenAndPenDown() {
        VectorPens x = drawn("0,0-1,1-2,2;1,0-2,1;2,0-3,1;3,0-4,1;4,0-5,1", "5,0-6,1;6,0-7,1;7,0-8,1;8,0-9,1");
        x.down(0, 0);
        due("split(0, 1)", x.split(0, 1), 10);
        return x;
    }

    /** The hash of the document over these values. */
    static long hash(long... values) {
        long hash = 866;
        for (long v : values) {
            hash = 31 * hash + v;
        }
        return hash;
    }

    /** What the state, the saved states and the text's length tell, down to the oldest saved state. */
    private static List<Long> toldByUndoing(VectorPens x) {
        List<Long> told = new ArrayList<>();
        told.add((long) x.line());
        told.add((long) x.strokes());
        told.add(x.digest());
        told.add((long) x.syntaxError());
        for (int i = 0; i < 7; i++) {
            told.add((long) x.undo());
            told.add((long) x.line());
            told.add(x.digest());
        }
        told.add((long) x.clearText());
        return told;
    }

    /** What the points of the pen's line and the characters of the text tell. */
    private static List<Long> toldByGoingOn(VectorPens x) {
        List<Long> told = new ArrayList<>();
        if (x.strokes() == 10) {
            told.add((long) x.remove(0));
        }
        told.add((long) x.draw(997, 998));
        told.add((long) x.lift());
        told.add(x.digest());
        told.add((long) x.read());
        told.add(x.digest());
        told.add((long) x.clearText());
        return told;
    }

    private static List<Integer> toldByProblem(VectorPens x) {
        return List.of(x.problem(0), x.problem(1), x.problem(2));
    }

    /** The call answers so, and nothing tells later that it was made, but problem() perhaps. */
    static void keepsButProblem(String call, Supplier<VectorPens> make, ToLongFunction<VectorPens> made, long want) {
        VectorPens x = make.get();
        due(call, made.applyAsLong(x), want);
        List<Long> told = toldByUndoing(x);
        List<Long> without = toldByUndoing(make.get());
        holds(call + " changes nothing: " + told + " and without it " + without, told.equals(without));
        VectorPens y = make.get();
        made.applyAsLong(y);
        told = toldByGoingOn(y);
        without = toldByGoingOn(make.get());
        holds(call + " changes nothing: " + told + " and without it " + without, told.equals(without));
    }

    /** The call answers so, and nothing tells later that it was made. */
    static void keeps(String call, Supplier<VectorPens> make, ToLongFunction<VectorPens> made, long want) {
        keepsButProblem(call, make, made, want);
        VectorPens x = make.get();
        made.applyAsLong(x);
        List<Integer> told = toldByProblem(x);
        holds(call + " leaves problem(): " + told, told.equals(toldByProblem(make.get())));
    }

    /** The values beside a range and the farthest ones get the code and leave no trace; those at its ends don't. */
    static void range(
        Supplier<VectorPens> make, ToLongBiFunction<VectorPens, Integer> made, int low, int high, int code) {
        for (int v : new int[] {MIN, low - 1, high + 1, MAX}) {
            keeps("with " + v, make, x -> made.applyAsLong(x, v), code);
        }
        for (int v : new int[] {low, high}) {
            long got = made.applyAsLong(make.get(), v);
            holds("with " + v + ", which is inside, it answered " + got, got != code);
        }
    }

    static void badValue(Supplier<VectorPens> make, ToLongBiFunction<VectorPens, Integer> made, int low, int high) {
        range(make, made, low, high, BAD_VALUE);
    }

    /** The numbers next to the strokes get NO_SUCH, and so does 0 without strokes, with the pen up and down. */
    static void noSuchStroke(Supplier<VectorPens> make, ToLongBiFunction<VectorPens, Integer> made) {
        range(make, made, 0, make.get().strokes() - 1, NO_SUCH);
        keeps("with 0 in an empty drawing", VectorPens::new, x -> made.applyAsLong(x, 0), NO_SUCH);
        keeps("with 0, which is only a line yet", () -> penDown(3), x -> made.applyAsLong(x, 0), NO_SUCH);
    }

    /** The call does something that undo() takes back, and the pen's line and the text stay as they are. */
    static void undoable(Supplier<VectorPens> make, ToLongFunction<VectorPens> made) {
        VectorPens x = make.get();
        long before = x.digest();
        int saved = savedIn(make.get());
        long got = made.applyAsLong(x);
        holds("it answered no error code, but " + got, got >= 0 || got == NONE);
        holds("digest() is another one", x.digest() != before);
        due("undo()", x.undo(), Math.min(5, saved));
        due("digest() after undo()", x.digest(), before);
        List<Long> told = toldByGoingOn(x);
        holds("undo() brings all back: " + told, told.equals(toldByGoingOn(make.get())));
    }

    private static int savedIn(VectorPens x) {
        int left = x.undo();
        return left == NOT_POSSIBLE ? 0 : left + 1;
    }
}
