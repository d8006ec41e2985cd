import java.io.IOException;
import java.lang.reflect.Field;
import java.lang.reflect.Method;
import java.lang.reflect.Modifier;
import java.nio.file.Files;
import java.nio.file.Path;
import java.util.ArrayList;
import java.util.List;
import java.util.Map;
import java.util.Set;
import java.util.TreeMap;
import java.util.TreeSet;
import java.util.regex.Matcher;
import java.util.regex.Pattern;

/** The public face: nothing is left out of it, nothing else is in it. */
public final class FaceTest {
    private static final Check CHECK = new Check();
    private static final String[] METHODS = {
        "int garden(int,int,int,int)", "int sign(int)", "int set(int,int)", "int vine(int,int,int)",
        "int ofVine(int,int)", "int pull(int)", "int frost(int,boolean)", "int tip(int,int)",
        "long leaves(int,int)", "int doubts(int,int)", "int ends(int,int)", "int shortest(int)",
        "int law(int,int)", "int prop(int,int)", "int closed(int,int)", "int first()",
        "int mazes(int,int)", "long odds(int,int,int,int)", "int reading(int,int,int)", "int back(int)",
        "int fits(int)", "int sheet(int,int,int)", "int lose(int)", "int put(int,int,int)",
        "long cell(int,int,int)", "int copy(int,int,int,int,int)", "int tell(int)", "int tie(int)",
        "int as(int,int)", "int trace()", "int fault()", "int many(int)"};
    /** The document's order, with what the interface says ahead of the calls. */
    private static final List<String> PARTS = List.of("---- 1 the garden",
            "garden", "sign", "set", "vine", "ofVine", "pull", "frost", "---- 2 days",
            "tip", "leaves", "doubts", "ends", "---- 3 ways, laws, props",
            "shortest", "law", "prop", "closed", "first", "---- 4 mazes, odds, what was seen",
            "mazes", "odds", "reading", "back", "fits", "---- 5 sheets, parts",
            "sheet", "lose", "put", "cell", "copy", "tell", "tie", "as", "trace", "fault", "many");

    public static void main(String[] args) throws IllegalAccessException, IOException {
        Set<String> face = new TreeSet<>();
        Set<String> names = new TreeSet<>();
        for (Method method : VineGarden.class.getDeclaredMethods()) {
            if (Modifier.isPublic(method.getModifiers())) {
                face.add(told(method));
                names.add(method.getName());
                CHECK.holds(method + " is an object's", !Modifier.isStatic(method.getModifiers()));
            }
        }
        CHECK.holds("the face's methods: " + face, face.equals(new TreeSet<>(Set.of(METHODS))));
        hidden(VineGarden.class, names);
        for (Class<?> inside : VineGarden.class.getDeclaredClasses()) {
            CHECK.holds(inside + " is static", Modifier.isStatic(inside.getModifiers()));
            boolean seen = Modifier.isPublic(inside.getModifiers()) || Modifier.isProtected(inside.getModifiers());
            CHECK.holds(inside + " is hidden", !seen);
            hidden(inside, names);
        }
        CHECK.holds("public", Modifier.isPublic(VineGarden.class.getModifiers()));
        CHECK.holds("final", Modifier.isFinal(VineGarden.class.getModifiers()));
        CHECK.holds("of no other class", VineGarden.class.getSuperclass() == Object.class);
        CHECK.due("of no interface", VineGarden.class.getInterfaces().length, 0);
        CHECK.due("public constructors", VineGarden.class.getConstructors().length, 1);
        CHECK.due("constructors", VineGarden.class.getDeclaredConstructors().length, 1);
        CHECK.due("its parameters", VineGarden.class.getConstructors()[0].getParameterCount(), 0);
        constants();
        parts();
        CHECK.end();
    }

    private static String told(Method method) {
        StringBuilder told = new StringBuilder(method.getReturnType() + " " + method.getName() + "(");
        for (Class<?> type : method.getParameterTypes()) {
            told.append(told.charAt(told.length() - 1) == '(' ? "" : ",").append(type);
        }
        return told.append(")").toString();
    }

    private static void hidden(Class<?> type, Set<String> names) {
        for (Method method : type.getDeclaredMethods()) {
            boolean ofFace = type == VineGarden.class && Modifier.isPublic(method.getModifiers());
            boolean isPrivate = Modifier.isPrivate(method.getModifiers());
            CHECK.holds(method + " is hidden", ofFace || isPrivate || type != VineGarden.class);
            CHECK.holds(method + " has a name of its own", ofFace || !names.contains(method.getName()));
        }
    }

    private static void constants() throws IllegalAccessException {
        Map<String, Long> found = new TreeMap<>();
        for (Field field : VineGarden.class.getDeclaredFields()) {
            if (!Modifier.isPrivate(field.getModifiers())) {
                CHECK.holds(field + " is final", Modifier.isFinal(field.getModifiers()));
                CHECK.holds(field + " is public", Modifier.isPublic(field.getModifiers()));
                found.put(field.getType() + " " + field.getName(), ((Number) field.get(null)).longValue());
            }
        }
        Map<String, Long> wanted = new TreeMap<>(Map.of("int UNKNOWN", -1L, "int OUTSIDE", -2L,
                "int STATE", -3L, "int FULL", -4L, "int NONE", -9L, "long LOST", Long.MIN_VALUE));
        CHECK.holds("the constants: " + found, found.equals(wanted));
    }

    private static void parts() throws IOException {
        String source = Files.readString(Path.of("src/main/java/VineGarden.java"));
        Matcher line = Pattern.compile("    // (---- \\d .*)|    public (?:int|long) (\\w+)\\(").matcher(source);
        List<String> found = new ArrayList<>();
        while (line.find()) {
            found.add(line.group(1) != null ? line.group(1) : line.group(2));
        }
        CHECK.holds("the parts in their order: " + found, found.equals(PARTS));
    }
}
