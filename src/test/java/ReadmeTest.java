import java.io.IOException;
import java.lang.reflect.Field;
import java.lang.reflect.Method;
import java.lang.reflect.Modifier;
import java.nio.file.Files;
import java.nio.file.Path;
import java.util.List;
import java.util.regex.Matcher;
import java.util.regex.Pattern;

/** README.md tells what the class really answers, and names all that can be called. */
final class ReadmeTest {
    private static final Pattern ANSWERED = Pattern.compile("pens\\.(\\w+)\\(([^)]*)\\); *// (-?\\d+).*");
    private static final Pattern TYPED = Pattern.compile("for \\(char sign : \"([^\"]*)\".*");
    private static final String[] UNANSWERED = {
        "VectorPens pens = new VectorPens();", "pens.type(sign);", "}"};

    private final VectorPens pens = new VectorPens();

    private ReadmeTest() {
    }

    private long answer(String name, String arguments) throws ReflectiveOperationException {
        String[] told = arguments.isEmpty() ? new String[0] : arguments.split(", ");
        Class<?>[] types = new Class<?>[told.length];
        Object[] values = new Object[told.length];
        for (int i = 0; i < told.length; i++) {
            types[i] = int.class;
            values[i] = Integer.valueOf(told[i]);
        }
        return ((Number) VectorPens.class.getMethod(name, types).invoke(pens, values)).longValue();
    }

    private void play(String line) throws ReflectiveOperationException {
        Matcher answered = ANSWERED.matcher(line);
        Matcher typed = TYPED.matcher(line);
        if (answered.matches()) {
            long got = answer(answered.group(1), answered.group(2));
            Check.due("README.md: " + line, got, Long.parseLong(answered.group(3)));
        } else if (typed.matches()) {
            for (char sign : typed.group(1).toCharArray()) {
                pens.type(sign);
            }
        } else {
            Check.holds("a line that is understood: " + line, List.of(UNANSWERED).contains(line));
        }
    }

    private void playAll(String text) throws ReflectiveOperationException {
        Matcher blocks = Pattern.compile("(?s)```java\n(.*?)```").matcher(text);
        int played = 0;
        while (blocks.find()) {
            for (String line : blocks.group(1).split("\n")) {
                play(line.trim());
                played++;
            }
        }
        Check.holds("there are examples: " + played, played > 0);
    }

    private static void names(String text) throws IllegalAccessException {
        for (Method m : VectorPens.class.getDeclaredMethods()) {
            if (Modifier.isPublic(m.getModifiers())) {
                String commas = "[^,)]+, ".repeat(Math.max(0, m.getParameterCount() - 1));
                String arguments = m.getParameterCount() == 0 ? "" : commas + "[^,)]+";
                String call = "`" + m.getName() + "\\(" + arguments + "\\)`";
                Check.holds("README.md names " + call, Pattern.compile(call).matcher(text).find());
            }
        }
        for (Field f : VectorPens.class.getDeclaredFields()) {
            if (Modifier.isPublic(f.getModifiers())) {
                String row = "| " + f.getInt(null) + " | `" + f.getName() + "` |";
                Check.holds("README.md has " + row, text.contains(row));
            }
        }
    }

    public static void main(String[] args) throws IOException, ReflectiveOperationException {
        String text = Files.readString(Path.of("README.md"));
        new ReadmeTest().playAll(text);
        names(text);
        Check.end("ReadmeTest");
    }
}
