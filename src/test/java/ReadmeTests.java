import java.lang.reflect.Field;
import java.lang.reflect.Method;
import java.lang.reflect.Modifier;
import java.nio.file.Files;
import java.nio.file.Path;
import java.util.regex.Matcher;
import java.util.regex.Pattern;
import java.util.stream.Stream;

/** README.md: the calls of its example answer what is written behind them, and nothing of the face is left out. */
public final class ReadmeTests {
    private static final Due D = new Due();
    private static final Pattern CALL =
            Pattern.compile("(Float\\.intBitsToFloat\\()?x\\.(\\w+)\\(([^)]*)\\)\\)?; *// (-?[0-9.]+)(:.*)?");

    public static void main(String[] args) throws Exception {
        String readme = Files.readString(Path.of("README.md"));
        example(readme.substring(readme.indexOf("```java"), readme.lastIndexOf("```")));
        members(readme);
        tests(readme);
        D.end();
    }

    private static void example(String block) throws Exception {
        SpinStrips x = new SpinStrips();
        int calls = 0;
        for (String line : block.split("\n")) {
            Matcher call = CALL.matcher(line);
            if (call.matches()) {
                calls++;
                int got = answer(x, call.group(2), call.group(3).split(", "));
                String told = call.group(1) == null ? "" + got : "" + Float.intBitsToFloat(got);
                D.dueText("README: " + line, told, call.group(4));
            } else {
                D.due("README: a call that can be read, or none: " + line, line.contains("x.") ? 1 : 0, 0);
            }
        }
        D.due("README: its example has calls", calls > 20 ? 1 : 0, 1);
    }

    private static int answer(SpinStrips x, String name, String[] words) throws Exception {
        for (Method method : SpinStrips.class.getMethods()) {
            if (method.getDeclaringClass() == SpinStrips.class && method.getName().equals(name)) {
                Class<?>[] types = method.getParameterTypes();
                Object[] values = new Object[types.length];
                for (int i = 0; i < types.length; i++) {
                    values[i] = value(types[i], words[i]);
                }
                return (Integer) method.invoke(x, values);
            }
        }
        throw new IllegalStateException("README: there is no call " + name);
    }

    private static Object value(Class<?> type, String word) {
        if (type == boolean.class) {
            return Boolean.valueOf(word);
        }
        return type == char.class ? (Object) word.charAt(1) : (Object) Integer.valueOf(word);
    }

    private static void members(String readme) throws Exception {
        for (Method method : SpinStrips.class.getMethods()) {
            if (method.getDeclaringClass() == SpinStrips.class) {
                int lines = readme.split("\n\\| `" + method.getName() + "\\(", -1).length - 1;
                D.due("README: lines of the table for " + method.getName(), lines, 1);
            }
        }
        for (Field field : SpinStrips.class.getFields()) {
            if (Modifier.isStatic(field.getModifiers())) {
                String named = "`" + field.getName() + "` (" + field.getInt(null);
                D.due("README: it tells " + named + ")", readme.contains(named) ? 1 : 0, 1);
            }
        }
    }

    private static void tests(String readme) throws Exception {
        try (Stream<Path> files = Files.list(Path.of("src/test/java"))) {
            for (Path file : files.toList()) {
                String name = file.getFileName().toString().replace(".java", "");
                if (name.endsWith("Tests")) {
                    D.due("README: a line for " + name, readme.contains("\n| `" + name + "` |") ? 1 : 0, 1);
                }
            }
        }
    }
}
