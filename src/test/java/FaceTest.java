import java.io.IOException;
import java.lang.reflect.Constructor;
import java.lang.reflect.Field;
import java.lang.reflect.Method;
import java.lang.reflect.Modifier;
import java.nio.file.Files;
import java.nio.file.Path;
import java.util.Arrays;
import java.util.Set;
import java.util.TreeSet;
import java.util.regex.Matcher;
import java.util.regex.Pattern;

/** The public face of the document, and the rules of LANGUAGE.md that can be read off the file. */
final class FaceTest {
    private static final String SOURCE = "src/main/java/VectorPens.java";
    private static final String[] FACE = {
        "int down(int, int)", "int draw(int, int)", "int lift()", "int line()", "int simplify(int, int)",
        "int weld(int)", "int joinAll()", "int move(int, int, int)", "int turn(int, int)", "int reverse(int)",
        "int close(int)", "int split(int, int)", "int remove(int)", "int toTop(int)", "int strokes()",
        "int of(int, int)", "int point(int, int)", "int crossings(int, int)", "int nearest(int, int)",
        "int isInside(int, int, int)", "int ifSimplified(int, int)", "int toleranceFor(int, int)",
        "int ifWelded(int)", "int type(int)", "int clearText()", "int syntaxError()", "int read()",
        "int problem(int)", "int undo()", "long digest()"};
    private static final String[] CONSTANTS = {"NO_SUCH", "BAD_VALUE", "NOT_POSSIBLE", "LIMIT", "BAD_TEXT", "NONE"};
    private static final String[] REFUSED = {
        "\\bpackage\\b", "\\bthrow\\b", "\\btry\\b", "\\bcatch\\b", "\\bsynchronized\\b", "\\bassert\\b", "\\)\\s*->",
        "\\(\\w+\\s*->", "::", "static\\s*\\{", "\\bhashCode\\b", "\\bSystem\\.(?!arraycopy\\b)", "\\w+Exact\\b", "\\bRandom\\b", "\\bThread\\b"};

    private FaceTest() {
    }

    private static String signature(Method m) {
        StringBuilder s = new StringBuilder(m.getReturnType().getName()).append(' ').append(m.getName()).append('(');
        for (Class<?> type : m.getParameterTypes()) {
            s.append(s.charAt(s.length() - 1) == '(' ? "" : ", ").append(type.getName());
        }
        return s.append(')').toString();
    }

    private static void face() {
        Set<String> open = new TreeSet<>();
        for (Method m : VectorPens.class.getDeclaredMethods()) {
            if (!Modifier.isPrivate(m.getModifiers())) {
                open.add(signature(m));
                Check.holds(m + " is public and no static one", m.getModifiers() == Modifier.PUBLIC);
            }
        }
        Check.holds("the methods of the face: " + open, open.equals(new TreeSet<>(Arrays.asList(FACE))));
        Set<String> constants = new TreeSet<>();
        for (Field f : VectorPens.class.getDeclaredFields()) {
            if (!Modifier.isPrivate(f.getModifiers())) {
                constants.add(f.getName());
                int constant = Modifier.PUBLIC | Modifier.STATIC | Modifier.FINAL;
                Check.holds(f + " is a constant", f.getModifiers() == constant && f.getType() == int.class);
            }
        }
        Check.holds("the constants: " + constants, constants.equals(new TreeSet<>(Arrays.asList(CONSTANTS))));
        Constructor<?>[] made = VectorPens.class.getDeclaredConstructors();
        Check.holds("one public constructor", made.length == 1 && made[0].getModifiers() == Modifier.PUBLIC);
        Check.holds("a public final class", VectorPens.class.getModifiers() == (Modifier.PUBLIC | Modifier.FINAL));
    }

    private static void classesInside() {
        Set<String> names = new TreeSet<>();
        for (String signature : FACE) {
            names.add(signature.substring(signature.indexOf(' ') + 1, signature.indexOf('(')));
        }
        for (Class<?> c : VectorPens.class.getDeclaredClasses()) {
            int m = c.getModifiers();
            boolean hidden = !Modifier.isPublic(m) && !Modifier.isProtected(m);
            Check.holds(c + " is static and not public", Modifier.isStatic(m) && hidden);
            for (Method method : c.getDeclaredMethods()) {
                boolean open = !Modifier.isPrivate(method.getModifiers());
                Check.holds(method + " has a name of its own", open || !names.contains(method.getName()));
            }
        }
        Check.holds("at most twelve classes", VectorPens.class.getDeclaredClasses().length < 12);
    }

    private static void source() throws IOException {
        String text = Files.readString(Path.of(SOURCE));
        text = text.replaceAll("(?s)/\\*.*?\\*/", "").replaceAll("//[^\n]*", "");
        for (String word : REFUSED) {
            Matcher m = Pattern.compile(word).matcher(text);
            Check.holds("no " + word, !m.find());
        }
        int longest = 0;
        int lines = 0;
        for (String line : text.split("\n")) {
            boolean begins = line.matches(" {4}( {4})?(public |private |static |final )*\\w+(\\[\\])? ?\\w*\\(.*\\) \\{");
            boolean inside = line.matches(" +(if|for|while|switch) .*");
            lines = begins && !inside ? 1 : lines + 1;
            longest = Math.max(longest, lines);
        }
        Check.holds("short methods, the longest has " + longest + " lines", longest <= 65);
    }

    public static void main(String[] args) throws IOException {
        face();
        classesInside();
        source();
        Check.end("FaceTest");
    }
}
