import java.io.IOException;
import java.lang.reflect.Method;
import java.lang.reflect.Modifier;
import java.nio.file.DirectoryStream;
import java.nio.file.Files;
import java.nio.file.Path;
import java.util.HashMap;
import java.util.HashSet;
import java.util.List;
import java.util.Map;
import java.util.Set;
import java.util.regex.Matcher;
import java.util.regex.Pattern;

/** README.md: each call of its run answers what stands behind it, and it names every call and every test. */
public final class ReadmeTests extends Checks {
    private static final Path README = Path.of("README.md"), TESTS = Path.of("src/test/java");
    private static final String MAKING = "BrideShoes x = new BrideShoes();";
    private static final Pattern CALL =
        Pattern.compile("(?:int (\\w+) = )?x\\.(\\w+)\\(([^)]*)\\); +// (-?\\d+)(?:: .+)?");

    private static final Map<String, Method> face = new HashMap<>();
    private static final Map<String, Integer> named = new HashMap<>();
    private static final Set<String> called = new HashSet<>();

    public static void main(String[] args) throws Exception {
        for (Method m : BrideShoes.class.getDeclaredMethods()) {
            if (Modifier.isPublic(m.getModifiers())) {
                face.put(m.getName(), m);
            }
        }
        List<String> lines = Files.readAllLines(README);
        run(lines);
        everyCallIsNamed();
        everyTestIsNamed(String.join("\n", lines));
        end("README.md is as it stands");
    }

    private static void run(List<String> lines) throws ReflectiveOperationException {
        BrideShoes x = null;
        boolean isRun = false;
        for (String line : lines) {
            if (line.startsWith("```")) {
                isRun = line.equals("```java");
            } else if (isRun && line.equals(MAKING)) {
                x = new BrideShoes();
            } else if (isRun) {
                call(x, line);
            }
        }
    }

    private static void call(BrideShoes x, String line) throws ReflectiveOperationException {
        Matcher parts = CALL.matcher(line);
        if (x == null || !parts.matches() || !face.containsKey(parts.group(2))) {
            fault("README.md: no call with its answer: " + line);
            return;
        }
        Method method = face.get(parts.group(2));
        Object[] values = valuesOf(parts.group(3), method.getParameterTypes());
        if (values == null) {
            fault("README.md: not what the call takes: " + line);
            return;
        }
        int got = (Integer) method.invoke(x, values);
        due("README.md: " + line, got, Integer.parseInt(parts.group(4)));
        called.add(method.getName());
        if (parts.group(1) != null) {
            named.put(parts.group(1), got);
        }
    }

    /** Null, if they are not of these types. */
    private static Object[] valuesOf(String text, Class<?>[] types) {
        String[] words = text.isEmpty() ? new String[0] : text.split(", ");
        if (words.length != types.length) {
            return null;
        }
        Object[] values = new Object[words.length];
        for (int i = 0; i < words.length; i++) {
            values[i] = valueOf(words[i], types[i]);
            if (values[i] == null) {
                return null;
            }
        }
        return values;
    }

    private static Object valueOf(String word, Class<?> type) {
        if (type == boolean.class) {
            return word.equals("true") || word.equals("false") ? Boolean.valueOf(word) : null;
        }
        if (type == long.class) {
            boolean isHex = word.matches("0x[0-9a-f]{1,16}L");
            return isHex ? Long.valueOf(Long.parseUnsignedLong(word.substring(2, word.length() - 1), 16)) : null;
        }
        return word.matches("-?\\d+") ? Integer.valueOf(word) : named.get(word);
    }

    private static void everyCallIsNamed() {
        for (String name : face.keySet()) {
            if (!called.contains(name)) {
                fault("README.md does not call " + name);
            }
        }
    }

    private static void everyTestIsNamed(String readme) throws IOException {
        try (DirectoryStream<Path> files = Files.newDirectoryStream(TESTS, "*.java")) {
            for (Path file : files) {
                String name = file.getFileName().toString().replace(".java", "");
                if (!readme.contains("`" + name + "`")) {
                    fault("README.md does not name " + name);
                }
            }
        }
    }
}
