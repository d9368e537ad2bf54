import java.lang.reflect.InvocationTargetException;
import java.lang.reflect.Method;
import java.lang.reflect.Modifier;
import java.nio.file.Files;
import java.nio.file.Path;
import java.util.Set;
import java.util.TreeSet;
import java.util.regex.Matcher;
import java.util.regex.Pattern;

/** The calls of README.md, made one behind the other on one object, answer what stands behind them there. */
public final class ReadmeTest {
    private static final Pattern CALL = Pattern.compile("rows\\.(\\w+)\\((.*?)\\); +// (-?\\d+).*");

    public static void main(String[] args) throws Exception {
        TellingRows rows = new TellingRows();
        Set<String> shown = new TreeSet<>();
        for (String line : Files.readString(Path.of("README.md")).split("\n")) {
            Matcher m = CALL.matcher(line);
            if (m.matches()) {
                shown.add(m.group(1));
                long got = answer(rows, m.group(1), m.group(2));
                Check.holds(line.trim() + " answered " + got, got == Long.parseLong(m.group(3)));
            } else {
                Check.holds("a call with its answer: " + line, !line.startsWith("rows."));
            }
        }
        for (Method call : TellingRows.class.getDeclaredMethods()) {
            Check.holds("README.md shows " + call.getName(),
                !Modifier.isPublic(call.getModifiers()) || shown.contains(call.getName()));
        }
        System.out.println(shown.size() + " calls are shown");
        Check.end(1, 0);
    }

    private static long answer(TellingRows rows, String name, String written) throws Exception {
        String[] words = written.isEmpty() ? new String[0] : written.split(", ");
        for (Method call : TellingRows.class.getDeclaredMethods()) {
            if (call.getName().equals(name) && call.getParameterCount() == words.length) {
                return made(rows, call, words);
            }
        }
        throw new IllegalArgumentException("no such call: " + name + " of " + written);
    }

    private static long made(TellingRows rows, Method call, String[] words)
            throws IllegalAccessException, InvocationTargetException {
        Object[] values = new Object[words.length];
        for (int i = 0; i < words.length; i++) {
            Class<?> type = call.getParameterTypes()[i];
            values[i] = type == boolean.class ? (Object) Boolean.valueOf(words[i])
                : type == long.class ? (Object) Long.decode(words[i].replace("L", "")) : (Object) Integer.valueOf(words[i]);
        }
        return ((Number) call.invoke(rows, values)).longValue();
    }
}
