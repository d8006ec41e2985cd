import java.io.IOException;
import java.lang.reflect.Field;
import java.lang.reflect.Method;
import java.lang.reflect.Modifier;
import java.nio.file.Files;
import java.nio.file.Path;
import java.util.ArrayList;
import java.util.Arrays;
import java.util.List;
import java.util.Set;
import java.util.TreeSet;
import java.util.regex.Matcher;
import java.util.regex.Pattern;

/** What of ../shared/LANGUAGE.md can be seen from the text of the class, and by reflection. */
public final class LanguageTest {
    private static final Check CHECK = new Check();
    private static final Path SOURCE = Path.of("src/main/java/VineGarden.java");
    private static final Set<String> IMPORTS = Set.of("java.util.ArrayList", "java.util.List",
            "java.util.Arrays", "java.util.Iterator");
    private static final Set<Class<?>> TYPES = Set.of(int.class, long.class, short.class, byte.class, char.class,
            boolean.class, String.class, StringBuilder.class, ArrayList.class, List.class, void.class);
    private static final Set<Class<?>> CONSTANTS = Set.of(int.class, long.class, boolean.class, char.class,
            String.class, int[].class, long[].class, char[].class, byte[].class);

    public static void main(String[] args) throws IOException {
        String source = Files.readString(SOURCE);
        String code = withoutComments(source);
        oneFile(code);
        words(code);
        library(code);
        longestMethod(code);
        List<Class<?>> classes = new ArrayList<>(List.of(VineGarden.class.getDeclaredClasses()));
        classes.add(VineGarden.class);
        CHECK.holds("some twelve classes: " + classes.size(), classes.size() <= 12);
        for (Class<?> type : classes) {
            fields(type);
            methods(type);
        }
        CHECK.end();
    }

    private static String withoutComments(String source) {
        return source.replaceAll("(?s)/\\*.*?\\*/", "").replaceAll("//[^\n]*", "");
    }

    private static void none(String code, String what, String pattern) {
        Matcher found = Pattern.compile(pattern).matcher(code);
        CHECK.holds("no " + what + (found.find() ? ": " + found.group() : ""), !found.reset().find());
    }

    private static void oneFile(String code) throws IOException {
        try (var files = Files.list(SOURCE.getParent())) {
            CHECK.due("files beside it", files.count(), 1);
        }
        none(code, "package line", "\\bpackage\\b");
        CHECK.holds("public and final", code.contains("public final class VineGarden {"));
    }

    /** Rules 2, 6, 10 and 13. */
    private static void words(String code) {
        none(code, "exceptions", "\\b(throw|throws|try|catch|finally|assert|Throwable|Exception)\\b");
        none(code, "threads", "\\b(synchronized|volatile|Thread|wait|notify)\\b");
        none(code, "lambda or method reference", "->|::");
        none(code, "clock, randomness, file", "\\b(currentTimeMillis|nanoTime|Random|random|File|Path|getenv)\\b");
        none(code, "anonymous class", "\\bnew \\w+(<\\w*>)?\\([^;]*?\\)\\s*\\{");
        none(code, "static block", "\\bstatic\\s*\\{");
        none(code, "Exact", "Exact\\b");
        none(code, "float or double", "\\b(float|double|Float|Double)\\b");
        // Without any text there is none that could be joined by +, or compared by ==.
        none(code, "texts", "\"");
        none(code, "signs beyond 127", "[^\\x00-\\x7f]");
    }

    /** Rule 4. */
    private static void library(String code) {
        Matcher imports = Pattern.compile("import ([\\w.*]+);").matcher(code);
        while (imports.find()) {
            CHECK.holds("import " + imports.group(1), IMPORTS.contains(imports.group(1)));
        }
        Matcher calls = Pattern.compile("\\b([A-Z][a-z]\\w*)\\.(\\w+)").matcher(code);
        Set<String> listed = Set.of("System.arraycopy", "Arrays.fill", "Arrays.copyOf", "Arrays.copyOfRange",
                "Math.min", "Math.max", "Math.abs", "Math.floorMod", "Math.floorDiv", "Integer.bitCount",
                "Long.bitCount", "Long.MIN_VALUE", "util.Arrays");
        while (calls.find()) {
            CHECK.holds("library: " + calls.group(), listed.contains(calls.group()));
        }
        none(code, "full names", "(?<!import )\\bjavax?\\.");
    }

    /** Rule 11: by the lines between a method's head and the brace below it. */
    private static void longestMethod(String code) {
        String[] lines = code.split("\n");
        String head = "";
        int from = 0;
        for (int k = 0; k < lines.length; k++) {
            String line = lines[k];
            if (line.matches(" {4,8}[\\w<>\\[\\] ]+\\([^;]*\\) \\{") && !line.matches(" +(if|for|while|switch|do) .*")) {
                head = line.trim();
                from = k;
            }
            if (line.matches(" {4,8}\\}") && !head.isEmpty()) {
                CHECK.holds(head + " is short: " + (k - from), k - from <= 60);
            }
        }
    }

    private static boolean isOwn(Class<?> type) {
        return type == VineGarden.class || type.getEnclosingClass() == VineGarden.class;
    }

    private static void type(String what, Class<?> type) {
        Class<?> element = type.isArray() ? type.getComponentType() : type;
        boolean two = element.isArray() && element.getComponentType().isPrimitive();
        CHECK.holds(what + " is of a listed type", two || TYPES.contains(element) || isOwn(element));
    }

    /** Rules 3, 5 and 11. */
    private static void fields(Class<?> type) {
        int many = 0;
        for (Field field : type.getDeclaredFields()) {
            type(field.toString(), field.getType());
            if (Modifier.isStatic(field.getModifiers())) {
                CHECK.holds(field + " is final", Modifier.isFinal(field.getModifiers()));
                CHECK.holds(field + " is a constant", CONSTANTS.contains(field.getType()));
            } else {
                many++;
            }
        }
        CHECK.holds(type + " has some twenty fields: " + many, many <= 20);
    }

    /** Rules 2, 6 and 11. */
    private static void methods(Class<?> type) {
        CHECK.holds(type + " is static", type == VineGarden.class || Modifier.isStatic(type.getModifiers()));
        CHECK.holds(type + " holds no classes", type == VineGarden.class || type.getDeclaredClasses().length == 0);
        Set<String> barred = new TreeSet<>(Arrays.asList("equals", "hashCode", "toString", "finalize"));
        for (Method method : type.getDeclaredMethods()) {
            CHECK.holds(method + " has at most seven parameters", method.getParameterCount() <= 7);
            CHECK.holds(method + " is none that the machine calls", !barred.contains(method.getName()));
            type(method.toString(), method.getReturnType());
            for (Class<?> parameter : method.getParameterTypes()) {
                type(method.toString(), parameter);
            }
        }
    }
}
