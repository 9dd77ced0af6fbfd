import java.io.IOException;
import java.lang.reflect.Executable;
import java.lang.reflect.Field;
import java.lang.reflect.Method;
import java.lang.reflect.Modifier;
import java.nio.charset.StandardCharsets;
import java.nio.file.Files;
import java.nio.file.Path;
import java.util.ArrayList;
import java.util.HashSet;
import java.util.List;
import java.util.Set;
import java.util.regex.Matcher;
import java.util.regex.Pattern;

/** The rules of ../shared/LANGUAGE.md that can be read off the compiled class or its source. */
public final class RulesTest {
    private static final int MOST_CLASSES = 12;
    private static final int MOST_FIELDS = 20;
    private static final int MOST_PARAMETERS = 7;
    private static final int MOST_LINES = 60;

    /** Ruled out, or not needed here: a try would be allowed, but the class has nothing to catch. */
    private static final String[] WORDS = {
        "package", "import", "protected", "synchronized", "assert", "finally", "try", "catch", "volatile", "transient",
        "native", "equals", "hashCode", "toString", "getMessage", "Object", "System", "Thread", "var", "yield"
    };
    private static final String[] SIGNS = {"->", "::", "static {", "Exact("};

    private static void due(String rule, boolean holds) {
        Check.due(rule, holds ? 1 : 0, 1);
    }

    private static void checkClasses(Class<?>[] inside) {
        due("rule 11: at most some twelve classes", inside.length + 1 <= MOST_CLASSES);
        for (Class<?> one : inside) {
            due("rule 1: " + one.getSimpleName() + " is static", Modifier.isStatic(one.getModifiers()));
            due("rule 1: " + one.getSimpleName() + " is not seen outside",
                    !Modifier.isPublic(one.getModifiers()) && !Modifier.isProtected(one.getModifiers()));
        }
    }

    private static void checkNames(Class<?>[] inside) {
        Set<String> face = new HashSet<>();
        List<Method> others = new ArrayList<>();
        for (Method method : TurnThreads.class.getDeclaredMethods()) {
            if (Modifier.isPublic(method.getModifiers())) {
                face.add(method.getName());
            } else {
                others.add(method);
            }
        }
        for (Class<?> one : inside) {
            others.addAll(List.of(one.getDeclaredMethods()));
        }
        for (Method method : others) {
            due("rule 1: " + method + " bears no name of the face", !face.contains(method.getName()));
        }
    }

    private static void checkMembers(Class<?> one) {
        int fields = 0;
        for (Field field : one.getDeclaredFields()) {
            if (Modifier.isStatic(field.getModifiers())) {
                due("rule 5: " + field + " is a constant", Modifier.isFinal(field.getModifiers()));
            } else {
                fields++;
            }
        }
        due("rule 11: some twenty fields in " + one.getSimpleName(), fields <= MOST_FIELDS);
        List<Executable> calls = new ArrayList<>(List.of(one.getDeclaredMethods()));
        calls.addAll(List.of(one.getDeclaredConstructors()));
        for (Executable call : calls) {
            due("rule 11: the parameters of " + call, call.getParameterCount() <= MOST_PARAMETERS);
        }
    }

    private static void checkSource(String source) {
        String code = source.replaceAll("(?s)/\\*.*?\\*/", "").replaceAll("//[^\n]*", "");
        for (String word : WORDS) {
            due("no " + word + " in the source", !Pattern.compile("\\b" + word + "\\b").matcher(code).find());
        }
        for (String sign : SIGNS) {
            due("no " + sign + " in the source", !code.contains(sign));
        }
    }

    /** A method begins with a line that ends with "{" behind a list of parameters, and ends as far in as it began. */
    private static void checkLengths(String source) {
        Matcher method = Pattern.compile(
                "(?m)^((?: {4})++)(?!if|for|while|switch)[\\w\\[\\] ]+\\([^()]*\\)[\\w ]*\\{$").matcher(source);
        int found = 0;
        while (method.find()) {
            found++;
            int end = source.indexOf("\n" + method.group(1) + "}\n", method.start());
            long lines = source.substring(method.start(), Math.max(end, method.start())).lines().count() + 1;
            due("rule 11: the end of " + method.group().trim(), end > 0);
            due("rule 11: the " + lines + " lines of " + method.group().trim(), lines <= MOST_LINES);
        }
        due("methods are found", found > 11);
    }

    public static void main(String[] args) throws IOException {
        Class<?>[] inside = TurnThreads.class.getDeclaredClasses();
        checkClasses(inside);
        checkNames(inside);
        checkMembers(TurnThreads.class);
        for (Class<?> one : inside) {
            checkMembers(one);
        }
        String source = Files.readString(Path.of("src/main/java/TurnThreads.java"), StandardCharsets.UTF_8);
        checkSource(source);
        checkLengths(source);
        Check.end();
    }
}
