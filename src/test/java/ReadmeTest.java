import java.io.IOException;
import java.lang.reflect.Field;
import java.lang.reflect.Method;
import java.lang.reflect.Modifier;
import java.nio.file.Files;
import java.nio.file.Path;
import java.util.Set;
import java.util.TreeSet;
import java.util.regex.Matcher;
import java.util.regex.Pattern;
import java.util.stream.Stream;

/** README.md: its calls answer as it says, and it has each call with its refusals, each constant and each test of the project. */
public final class ReadmeTest {
    private static final Checks CHECK = new Checks();
    private static final Pattern CALL = Pattern.compile("(?m)^tables\\.(\\w+)\\((.*?)\\);\\s*// (-?\\d+):");
    private static final Pattern REFUSAL = Pattern.compile("\\b(UNKNOWN|OUTSIDE|STATE|FULL)\\b");

    private static void has(String what, boolean well) {
        CHECK.due(what, well ? 1 : 0, 1);
    }

    private static String between(String text, String from, String to) {
        int start = text.indexOf(from) + from.length();
        int end = text.indexOf(to, start);
        return text.substring(start, end < 0 ? text.length() : end);
    }

    private static Method method(String name) {
        for (Method m : OfficeTables.class.getDeclaredMethods()) {
            if (m.getName().equals(name) && Modifier.isPublic(m.getModifiers())) {
                return m;
            }
        }
        throw new IllegalArgumentException(name + " is no call");
    }

    private static Object[] arguments(Method m, String told) {
        String[] words = told.isEmpty() ? new String[0] : told.split(", ");
        Object[] arguments = new Object[words.length];
        for (int k = 0; k < words.length; k++) {
            long number = Long.decode(words[k].replace("L", ""));
            if (m.getParameterTypes()[k] == int.class) {
                arguments[k] = (int) number;
            } else {
                arguments[k] = number;
            }
        }
        return arguments;
    }

    private static void example(String readme) throws ReflectiveOperationException {
        String code = between(readme, "```java\n", "```");
        OfficeTables tables = new OfficeTables();
        Set<String> called = new TreeSet<>();
        Matcher m = CALL.matcher(code);
        int calls = 0;
        while (m.find()) {
            calls++;
            called.add(m.group(1));
            Method method = method(m.group(1));
            Number got = (Number) method.invoke(tables, arguments(method, m.group(2)));
            CHECK.due(m.group(1) + "(" + m.group(2) + ")", got.longValue(), Long.parseLong(m.group(3)));
        }
        CHECK.due("calls of the example", calls, code.split("tables\\.", -1).length - 1);
        CHECK.due("kinds of calls in it", called.size(), 18);
    }

    private static Set<String> refusalsIn(String text) {
        Set<String> all = new TreeSet<>();
        Matcher m = REFUSAL.matcher(text);
        while (m.find()) {
            all.add(m.group());
        }
        return all;
    }

    /** Of the page and the document the same refusals, in the row or under the heading of each call. */
    private static void calls(String readme, String document) {
        String face = between(document, "public OfficeTables();", "}").replace("public ", "");
        has("OfficeTables()", readme.contains("\n| `OfficeTables()` | "));
        int calls = 0;
        for (String line : face.strip().split("\n")) {
            String call = line.strip().replace(";", "");
            boolean isThere = readme.contains("\n| `" + call + "` | ");
            has(call, isThere);
            if (isThere) {
                String row = between(readme, "\n| `" + call + "` | ", "\n");
                String promise = between(document, "`" + call + "`: ", "\n");
                String refused = row.substring(Math.max(0, row.indexOf(" | ")));
                CHECK.same("refusals of " + call, refusalsIn(refused).toString(), refusalsIn(promise).toString());
            }
            calls++;
        }
        CHECK.due("calls", calls, 18);
    }

    private static void constants(String readme) throws ReflectiveOperationException {
        int constants = 0;
        for (Field f : OfficeTables.class.getFields()) {
            has(f.getName(), readme.contains("\n| `" + f.getName() + "` | " + f.getInt(null) + " | "));
            constants++;
        }
        CHECK.due("constants", constants, 5);
    }

    private static void tests(String readme) throws IOException {
        try (Stream<Path> files = Files.list(Path.of("src/test/java"))) {
            for (Path file : files.toArray(Path[]::new)) {
                String name = file.getFileName().toString().replace(".java", "");
                has("the test " + name, Pattern.compile("`" + name + "[` ]").matcher(readme).find());
            }
        }
    }

    public static void main(String[] args) throws IOException, ReflectiveOperationException {
        String readme = Files.readString(Path.of("README.md"));
        example(readme);
        calls(readme, Files.readString(Path.of("../shared/DOC.md")));
        constants(readme);
        tests(readme);
        CHECK.end("ReadmeTest");
    }
}
