import java.lang.reflect.Field;
import java.lang.reflect.Method;
import java.lang.reflect.Modifier;
import java.util.Map;
import java.util.Set;
import java.util.TreeMap;
import java.util.TreeSet;

/** The public face: nothing is left out of it, nothing else is in it. */
public final class FaceTest {
    private static final Check CHECK = new Check();
    private static final String[] METHODS = {
        "int garden(int,int,int,int)", "int sign(int)", "int set(int,int)", "int vine(int,int,int)",
        "int ofVine(int,int)", "int pull(int)", "int frost(int,boolean)", "int tip(int,int)",
        "long leaves(int,int)", "int doubts(int,int)", "int ends(int,int)", "int shortest(int)",
        "int law(int,int)", "int prop(int,int)", "int closed(int,int)", "int first()",
        "int mazes(int,int)", "long odds(int,int,int,int)", "int reading(int,int,int)", "int back(int)",
        "int fits(int)", "int sheet(int,int,int)", "int lose(int)", "int put(int,int,int)",
        "long cell(int,int,int)", "int copy(int,int,int,int,int)", "int tell(int)", "int tie(int)",
        "int as(int,int)", "int trace()", "int fault()", "int many(int)"};

    public static void main(String[] args) throws IllegalAccessException {
        Set<String> face = new TreeSet<>();
        Set<String> names = new TreeSet<>();
        for (Method method : VineGarden.class.getDeclaredMethods()) {
            if (Modifier.isPublic(method.getModifiers())) {
                face.add(told(method));
                names.add(method.getName());
            }
        }
        CHECK.holds("the face's methods: " + face, face.equals(new TreeSet<>(Set.of(METHODS))));
        hidden(VineGarden.class, names);
        for (Class<?> inside : VineGarden.class.getDeclaredClasses()) {
            CHECK.holds(inside + " is static", Modifier.isStatic(inside.getModifiers()));
            hidden(inside, names);
        }
        CHECK.holds("final", Modifier.isFinal(VineGarden.class.getModifiers()));
        CHECK.due("constructors", VineGarden.class.getConstructors().length, 1);
        constants();
        CHECK.end();
    }

    private static String told(Method method) {
        StringBuilder told = new StringBuilder(method.getReturnType() + " " + method.getName() + "(");
        for (Class<?> type : method.getParameterTypes()) {
            told.append(told.charAt(told.length() - 1) == '(' ? "" : ",").append(type);
        }
        return told.append(")").toString();
    }

    private static void hidden(Class<?> type, Set<String> names) {
        for (Method method : type.getDeclaredMethods()) {
            boolean ofFace = type == VineGarden.class && Modifier.isPublic(method.getModifiers());
            boolean isPrivate = Modifier.isPrivate(method.getModifiers());
            CHECK.holds(method + " is hidden", ofFace || isPrivate || type != VineGarden.class);
            CHECK.holds(method + " has a name of its own", ofFace || !names.contains(method.getName()));
        }
    }

    private static void constants() throws IllegalAccessException {
        Map<String, Long> found = new TreeMap<>();
        for (Field field : VineGarden.class.getDeclaredFields()) {
            if (!Modifier.isPrivate(field.getModifiers())) {
                CHECK.holds(field + " is final", Modifier.isFinal(field.getModifiers()));
                found.put(field.getType() + " " + field.getName(), ((Number) field.get(null)).longValue());
            }
        }
        Map<String, Long> wanted = new TreeMap<>(Map.of("int UNKNOWN", -1L, "int OUTSIDE", -2L,
                "int STATE", -3L, "int FULL", -4L, "int NONE", -9L, "long LOST", Long.MIN_VALUE));
        CHECK.holds("the constants: " + found, found.equals(wanted));
    }
}
