import java.io.IOException;
import java.lang.reflect.Constructor;
import java.lang.reflect.Field;
import java.lang.reflect.Method;
import java.lang.reflect.Modifier;
import java.nio.charset.StandardCharsets;
import java.nio.file.Files;
import java.nio.file.Path;
import java.util.Arrays;
import java.util.List;
import java.util.Set;
import java.util.TreeSet;
import java.util.regex.Matcher;
import java.util.regex.Pattern;

/** The face is just the document's, and the source keeps to what of ../shared/LANGUAGE.md a program can see. */
public final class LanguageTest {
    private static final Checks CHECKS = new Checks();
    private static final Set<String> FACE = new TreeSet<>(Arrays.asList("int feed(long)", "int read()", "int cut()",
        "int named(long)", "int size(int)", "int state(int)", "int row(int,int)", "long entry(int,int)", "int reason(int)",
        "long sum(int,int,int,int)", "int find(int,long)", "int drop(int)", "int builds()", "int build(int,int)",
        "int halves()", "long half(int,int)", "int reads(int,int)", "int count(int)"));
    private static final List<String> CONSTANTS = Arrays.asList("UNKNOWN", "OUTSIDE", "STATE", "FULL", "NONE");
    private static final List<String> WORDS = Arrays.asList("throw", "throws", "try", "catch", "synchronized", "assert",
        "import", "package", "volatile", "native", "double", "float", "String", "Object", "System", "Thread", "yield",
        "lambda", "equals", "hashCode", "toString");

    private static void check(boolean well, String what) {
        CHECKS.due(what, well ? 1 : 0, 1);
    }

    private static String told(Method m) {
        StringBuilder told = new StringBuilder(m.getReturnType().getSimpleName() + " " + m.getName() + "(");
        for (Class<?> one : m.getParameterTypes()) {
            told.append(told.charAt(told.length() - 1) == '(' ? "" : ",").append(one.getSimpleName());
        }
        return told + ")";
    }

    private static void face() {
        Class<?> c = OfficeTables.class;
        check(Modifier.isPublic(c.getModifiers()) && Modifier.isFinal(c.getModifiers()), "public and final");
        Set<String> seen = new TreeSet<>();
        for (Method m : c.getDeclaredMethods()) {
            if (!Modifier.isPrivate(m.getModifiers())) {
                check(Modifier.isPublic(m.getModifiers()) && !Modifier.isStatic(m.getModifiers()), "public " + m);
                seen.add(told(m));
            }
        }
        check(seen.equals(FACE), "the methods are " + seen);
        for (Field f : c.getDeclaredFields()) {
            boolean constant = CONSTANTS.contains(f.getName());
            int most = Modifier.PUBLIC | Modifier.PROTECTED | Modifier.PRIVATE | Modifier.STATIC | Modifier.FINAL;
            int due = constant ? Modifier.PUBLIC | Modifier.STATIC | Modifier.FINAL : Modifier.PRIVATE;
            check(constant ? (f.getModifiers() & most) == due && f.getType() == int.class
                : Modifier.isPrivate(f.getModifiers()), "field " + f);
        }
        Constructor<?>[] all = c.getDeclaredConstructors();
        check(all.length == 1 && Modifier.isPublic(all[0].getModifiers()) && all[0].getParameterCount() == 0,
            "one constructor");
    }

    private static void inside() {
        Set<String> names = new TreeSet<>();
        for (String one : FACE) {
            names.add(one.substring(one.indexOf(' ') + 1, one.indexOf('(')));
        }
        Class<?>[] inside = OfficeTables.class.getDeclaredClasses();
        check(inside.length < 12, "at most 12 classes");
        for (Class<?> c : inside) {
            check(Modifier.isStatic(c.getModifiers()) && !Modifier.isPublic(c.getModifiers()), "static " + c);
            check(c.getDeclaredClasses().length == 0, "no classes within " + c);
            int fields = 0;
            for (Field f : c.getDeclaredFields()) {
                boolean isStatic = Modifier.isStatic(f.getModifiers());
                fields += isStatic ? 0 : 1;
                check(!isStatic || Modifier.isFinal(f.getModifiers()), "final " + f);
                check(!Modifier.isPublic(f.getModifiers()), "not public " + f);
            }
            check(fields <= 20, "at most 20 fields in " + c);
            for (Method m : c.getDeclaredMethods()) {
                check(!names.contains(m.getName()), "another name for " + m);
                check(m.getParameterCount() <= 7, "at most 7 parameters: " + m);
            }
        }
        for (Method m : OfficeTables.class.getDeclaredMethods()) {
            check(!Modifier.isPrivate(m.getModifiers()) || !names.contains(m.getName()), "another name for " + m);
        }
    }

    private static String withoutTexts(String source) {
        return source.replaceAll("(?s)/\\*.*?\\*/", "").replaceAll("//[^\n]*", "").replaceAll("'(\\\\.|[^'])'", "0");
    }

    private static void source() throws IOException {
        String all = new String(Files.readAllBytes(Path.of("src/main/java/OfficeTables.java")), StandardCharsets.UTF_8);
        check(all.chars().allMatch(one -> one == '\n' || one >= 32 && one < 127), "plain signs alone");
        String source = withoutTexts(all);
        for (String word : WORDS) {
            check(!Pattern.compile("\\b" + word + "\\b").matcher(source).find(), "no " + word);
        }
        check(!source.contains("->") && !source.contains("::") && !source.contains("\""), "no lambdas, no texts");
        check(!Pattern.compile("static\\s*\\{").matcher(source).find(), "no static block");
        check(!source.contains("Exact("), "no Exact functions");
        int longest = 0;
        Matcher m = Pattern.compile("(?m)^( {4,8})(?:public|private|boolean|int|long|void|Table|[A-Z]\\w*)[^;=]*\\{$").matcher(source);
        while (m.find()) {
            int end = source.indexOf("\n" + m.group(1) + "}\n", m.end());
            if (end > 0 && !m.group().contains("class ")) {
                longest = Math.max(longest, source.substring(m.start(), end).split("\n").length);
            }
        }
        check(longest > 10 && longest <= 60, "methods of at most 60 lines, the longest has " + longest);
    }

    /** Room is made in constructors alone: a call that made something would be counted 512 times. */
    private static void room() throws IOException {
        String all = new String(Files.readAllBytes(Path.of("src/main/java/OfficeTables.java")), StandardCharsets.UTF_8);
        boolean inConstructor = false;
        for (String line : withoutTexts(all).split("\n")) {
            if (line.matches(" {4,8}(public )?[A-Z]\\w*\\([^)]*\\) \\{")) {
                inConstructor = true;
            } else if (line.matches(" {4}(    )?\\}")) {
                inConstructor = false;
            }
            check(inConstructor || !line.matches(".*\\bnew\\b.*"), "made in a constructor: " + line.trim());
        }
    }

    public static void main(String[] args) throws IOException {
        face();
        inside();
        source();
        room();
        CHECKS.end("LanguageTest");
    }
}
