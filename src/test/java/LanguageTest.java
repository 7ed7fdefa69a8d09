import java.io.IOException;
import java.lang.reflect.Constructor;
import java.lang.reflect.Field;
import java.lang.reflect.Method;
import java.lang.reflect.Modifier;
import java.nio.file.Files;
import java.nio.file.Path;
import java.util.List;
import java.util.Set;
import java.util.TreeSet;
import java.util.regex.Matcher;
import java.util.regex.Pattern;

/** The rules of ../shared/LANGUAGE.md, as far as they can be seen in the source and in the compiled class. */
public final class LanguageTest {
    private static final Set<String> FACE = Set.of("int feed(int,long)", "int house()", "int fault()", "int told(int)",
        "int bath(int,int)", "int bather(int,int)", "int height(int,int,int)", "int span(int,int,int,int)",
        "int morning(int,int,int,int)", "int strike(int)", "int wrong()", "int canBe(int,int,int,int)",
        "int likely(int,int,int,int)", "int odds(int)", "int tells(int,int,int)", "int alike(int)",
        "int needed(int,int)", "int away()", "int called(int,int)", "int write(int,int,int,int)", "int tear()",
        "int judge()", "int drift(int,int)", "int forget()", "int seed(int)", "int keep(int)", "int goBack(int)");
    private static final Set<String> CONSTANTS = Set.of("NONE", "UNKNOWN", "OUTSIDE", "NOT", "FULL");
    private static final String FORBIDDEN = "\\b(throw|throws|try|catch|synchronized|assert|lambda|equals|hashCode|toString"
        + "|System|Thread|Random|Object|record|HashMap|Exception|finally|volatile|native|transient|\\w+Exact)\\b|->|::|@";
    private static final Set<String> LIBRARY = Set.of("Math.max", "Math.min", "Arrays.fill",
        "Integer.numberOfTrailingZeros");

    private static int wrong;

    public static void main(String[] args) throws IOException {
        face();
        classes();
        String code = withoutComments(Files.readString(Path.of("src/main/java/BathWater.java")));
        words(code);
        methods(code);
        if (wrong != 0) {
            System.exit(1);
        }
        System.out.println("the rules that can be seen are kept");
    }

    private static void rule(int number, boolean kept, String what) {
        if (!kept) {
            wrong++;
            System.out.println("rule " + number + ": " + what);
        }
    }

    private static void face() {
        Class<?> type = BathWater.class;
        rule(1, type.getModifiers() == (Modifier.PUBLIC | Modifier.FINAL), "the class is not public and final alone");
        rule(1, type.getPackageName().isEmpty(), "the class has a package");
        Set<String> open = new TreeSet<>();
        for (Method m : type.getDeclaredMethods()) {
            if (!Modifier.isPrivate(m.getModifiers())) {
                rule(1, m.getModifiers() == Modifier.PUBLIC, m + " is not public alone");
                open.add(written(m));
            }
        }
        rule(1, open.equals(new TreeSet<>(FACE)), "the face is " + open);
        for (Field f : type.getDeclaredFields()) {
            boolean constant = CONSTANTS.contains(f.getName());
            rule(1, constant == !Modifier.isPrivate(f.getModifiers()), f + " is open, or a constant that is not");
        }
        for (Constructor<?> c : type.getDeclaredConstructors()) {
            rule(1, c.getModifiers() == Modifier.PUBLIC && c.getParameterCount() == 0, c + " is not of the face");
        }
    }

    private static String written(Method m) {
        StringBuilder types = new StringBuilder();
        for (Class<?> type : m.getParameterTypes()) {
            types.append(types.length() == 0 ? "" : ",").append(type.getName());
        }
        return m.getReturnType().getName() + " " + m.getName() + "(" + types + ")";
    }

    private static void classes() {
        Class<?>[] inside = BathWater.class.getDeclaredClasses();
        rule(11, inside.length <= 12, "there are " + inside.length + " classes inside");
        Set<String> names = new TreeSet<>();
        for (String method : FACE) {
            names.add(method.substring(4, method.indexOf('(')));
        }
        members(BathWater.class, new TreeSet<>());
        for (Class<?> type : inside) {
            rule(2, Modifier.isStatic(type.getModifiers()), type + " is not static");
            rule(1, !Modifier.isPublic(type.getModifiers()) && !Modifier.isProtected(type.getModifiers()), type + " is open");
            members(type, names);
        }
    }

    private static void members(Class<?> type, Set<String> namesOfFace) {
        int fields = 0;
        for (Field f : type.getDeclaredFields()) {
            if (Modifier.isStatic(f.getModifiers())) {
                rule(5, Modifier.isFinal(f.getModifiers()) && f.getType().isPrimitive(), f + " is no constant");
            } else {
                fields++;
            }
        }
        rule(11, fields <= 20, type + " has " + fields + " fields");
        for (Method m : type.getDeclaredMethods()) {
            rule(11, m.getParameterCount() <= 7, m + " takes too many");
            rule(2, !m.isSynthetic(), m + " is synthetic");
            rule(1, !namesOfFace.contains(m.getName()), m + " bears a name of the face");
        }
    }

    private static String withoutComments(String source) {
        return source.replaceAll("(?s)/\\*.*?\\*/", " ").replaceAll("//[^\n]*", " ");
    }

    private static void words(String code) {
        Matcher forbidden = Pattern.compile(FORBIDDEN).matcher(code);
        while (forbidden.find()) {
            rule(6, false, "'" + forbidden.group() + "' stands in the source");
        }
        Matcher library = Pattern.compile("\\b(Math|Arrays|Integer|Long|String)\\.\\w+").matcher(code);
        while (library.find()) {
            rule(4, LIBRARY.contains(library.group()), library.group() + " is not of the library that is used here");
        }
        Matcher imports = Pattern.compile("import [^;]*;").matcher(code);
        while (imports.find()) {
            rule(4, imports.group().equals("import java.util.Arrays;"), imports.group());
        }
        rule(1, !code.contains("package "), "a package line");
        rule(3, code.chars().allMatch(c -> c < 127), "a sign that is none of 1 to 126");
    }

    private static void methods(String code) {
        List<String> lines = code.lines().toList();
        Pattern head = Pattern.compile("^(    |        )\\w[\\w<>\\[\\], ]*\\(.*\\) \\{$");
        for (int i = 0; i < lines.size(); i++) {
            if (head.matcher(lines.get(i)).matches() && !lines.get(i).matches("^ *(if|for|while|switch|do)\\b.*")) {
                String end = lines.get(i).replaceAll("\\S.*", "") + "}";
                int behind = i;
                while (behind < lines.size() && !lines.get(behind).equals(end)) {
                    behind++;
                }
                rule(11, behind - i <= 40, lines.get(i).strip() + " is " + (behind - i) + " lines long");
            }
        }
    }
}
