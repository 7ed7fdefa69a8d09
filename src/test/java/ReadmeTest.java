import java.io.IOException;
import java.lang.reflect.Field;
import java.lang.reflect.Method;
import java.lang.reflect.Modifier;
import java.net.URL;
import java.net.URLClassLoader;
import java.nio.file.Files;
import java.nio.file.Path;
import java.util.ArrayList;
import java.util.HashMap;
import java.util.List;
import java.util.Map;
import java.util.regex.Matcher;
import java.util.regex.Pattern;
import javax.tools.ToolProvider;

/** That README.md says what is so: the answers of its example, each call with its refusals, each constant. */
public final class ReadmeTest {
    private static final Pattern ANSWERED = Pattern.compile("^(x\\.\\w+\\(.*?\\)); *// (-?\\d+)(\\D.*)?$");
    private static final Pattern CALL = Pattern.compile("(?m)^\\| `(\\w+)\\((.*?)\\)` \\|.*\\| *([A-Z, ]*?) *\\|$");
    private static final Pattern PROMISE = Pattern.compile("(?m)^`int (\\w+)\\((.*?)\\)`: (.*)$");
    private static final Pattern CONSTANT = Pattern.compile("`([A-Z]+)`(?: \\| | \\()(-\\d+)");
    private static final Pattern REFUSAL = Pattern.compile("\\b(UNKNOWN|OUTSIDE|NOT|FULL)\\b");

    private static int wrong;
    private static int held;

    public static void main(String[] args) throws ReflectiveOperationException, IOException {
        String readme = Files.readString(Path.of("README.md"));
        example(readme);
        calls(readme, Files.readString(Path.of("../shared/DOC.md")));
        constants(readme);
        System.out.println(held + " statements of README.md held against the class, " + wrong + " wrong");
        if (wrong != 0) {
            System.exit(1);
        }
    }

    private static void same(String what, Object is, Object due) {
        held++;
        if (!due.equals(is)) {
            wrong++;
            System.out.println(what + " is '" + is + "', due is '" + due + "'");
        }
    }

    // ---- the example, run as it stands

    private static void example(String readme) throws ReflectiveOperationException, IOException {
        int from = readme.indexOf("```java\n") + "```java\n".length();
        List<String> calls = new ArrayList<>();
        List<Integer> due = new ArrayList<>();
        StringBuilder body = new StringBuilder();
        for (String line : readme.substring(from, readme.indexOf("```", from)).lines().toList()) {
            Matcher answered = ANSWERED.matcher(line);
            if (answered.matches()) {
                calls.add(answered.group(1));
                due.add(Integer.valueOf(answered.group(2)));
                body.append("all.add(").append(answered.group(1)).append(");\n");
            } else {
                body.append(line).append('\n');
            }
        }
        List<?> answers = answersOf(body.toString());
        for (int i = 0; i < calls.size(); i++) {
            same("README.md's example: " + calls.get(i), answers.get(i), due.get(i));
        }
        same("whether the example asks for something", calls.size() > 20, true);
    }

    private static List<?> answersOf(String body) throws ReflectiveOperationException, IOException {
        Path folder = Files.createTempDirectory("readme");
        Path file = folder.resolve("Example.java");
        Files.writeString(file, "public final class Example { public static java.util.List<Integer> run() {\n"
            + "java.util.List<Integer> all = new java.util.ArrayList<>();\n" + body + "return all; } }\n");
        String classes = System.getProperty("java.class.path");
        int failed = ToolProvider.getSystemJavaCompiler().run(null, null, null, "-cp", classes, "-d", folder.toString(),
            file.toString());
        if (failed != 0) {
            throw new IllegalStateException("the example does not compile");
        }
        try (URLClassLoader loader = new URLClassLoader(new URL[] {folder.toUri().toURL()})) {
            return (List<?>) loader.loadClass("Example").getMethod("run").invoke(null);
        } finally {
            Files.delete(file);
            Files.delete(folder.resolve("Example.class"));
            Files.delete(folder);
        }
    }

    // ---- the calls and the constants, each told once

    private static void calls(String readme, String document) {
        Map<String, String> told = new HashMap<>();
        for (Matcher row = CALL.matcher(readme); row.find();) {
            told.put(row.group(1) + "(" + row.group(2) + ")", row.group(3));
        }
        Map<String, String> promised = new HashMap<>();
        for (Matcher row = PROMISE.matcher(document); row.find();) {
            promised.put(row.group(1) + "(" + row.group(2) + ")", refusalsIn(row.group(3)));
        }
        same("the calls that README.md tells", told.keySet(), promised.keySet());
        for (Map.Entry<String, String> call : promised.entrySet()) {
            same("README.md: what " + call.getKey() + " refuses", told.get(call.getKey()), call.getValue());
        }
        int open = 0;
        for (Method method : BathWater.class.getDeclaredMethods()) {
            open += Modifier.isPublic(method.getModifiers()) ? 1 : 0;
        }
        same("how many calls README.md tells", told.size(), open);
    }

    private static String refusalsIn(String promise) {
        List<String> words = new ArrayList<>();
        for (Matcher word = REFUSAL.matcher(promise); word.find();) {
            words.add(word.group());
        }
        return String.join(", ", words);
    }

    private static void constants(String readme) throws IllegalAccessException {
        Map<String, Integer> told = new HashMap<>();
        for (Matcher row = CONSTANT.matcher(readme); row.find();) {
            told.put(row.group(1), Integer.valueOf(row.group(2)));
        }
        Map<String, Integer> open = new HashMap<>();
        for (Field field : BathWater.class.getDeclaredFields()) {
            if (Modifier.isPublic(field.getModifiers())) {
                open.put(field.getName(), field.getInt(null));
            }
        }
        same("the constants that README.md tells", told, open);
    }
}
