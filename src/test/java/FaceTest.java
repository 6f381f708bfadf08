import java.lang.reflect.Constructor;
import java.lang.reflect.Field;
import java.lang.reflect.Method;
import java.lang.reflect.Modifier;
import java.util.Set;
import java.util.TreeSet;

/** The class has the document's public face and no other member that is not private, but for static classes inside it. */
public final class FaceTest {
    private static final String[] METHODS = {
        "states(int)", "bag(int,boolean)", "arc(int,int,int,int,int)", "unarc()", "told(int,int)", "type(long,int)",
        "read()", "arcs(int,int,int,int)", "go(int)", "lose(int,int)", "now(int,int)", "reset()", "aim(int)",
        "want(int,int)", "found()", "about(int,int)", "letter(int,int,int)", "least()", "far()", "way(int)",
        "strict(int)", "sheet(int,int,int)", "drop(int)", "item(int,int,int,int)"};
    private static final String[] CONSTANTS = {
        "BAD=-1", "NOT=-2", "FULL=-3", "NONE=-4", "NULL=-11", "CAST=-12", "INDEX=-13", "SIZE=-14"};

    private static final int MOST_CLASSES = 12, MOST_FIELDS = 20;

    private static int wrong = 0;

    private static void due(String what, Object got, Object want) {
        if (!got.equals(want)) {
            wrong++;
            System.out.println(what + ": " + got + ", due is " + want);
        }
    }

    public static void main(String[] args) throws IllegalAccessException {
        Class<?> face = ForgettingLines.class;
        due("modifiers", Modifier.toString(face.getModifiers()), "public final");
        due("methods", methods(face), new TreeSet<>(Set.of(METHODS)));
        due("constants", constants(face), new TreeSet<>(Set.of(CONSTANTS)));
        Constructor<?>[] constructors = face.getDeclaredConstructors();
        due("constructors", constructors.length, 1);
        due("constructor", constructors[0].toString(), "public ForgettingLines()");
        due("few classes", face.getDeclaredClasses().length < MOST_CLASSES, true);
        fewFields(face);
        for (Class<?> inside : face.getDeclaredClasses()) {
            fewFields(inside);
            int modifiers = inside.getModifiers();
            due(inside + " is static", Modifier.isStatic(modifiers), true);
            due(inside + " is open", Modifier.isPublic(modifiers) || Modifier.isProtected(modifiers), false);
        }
        System.out.println(wrong == 0 ? "the face is as due" : wrong + " things are not as due");
        if (wrong != 0) {
            System.exit(1);
        }
    }

    private static void fewFields(Class<?> type) {
        int fields = 0;
        for (Field field : type.getDeclaredFields()) {
            if (Modifier.isStatic(field.getModifiers())) {
                due(field + " is final", Modifier.isFinal(field.getModifiers()), true);
            } else {
                fields++;
            }
        }
        due("few fields of " + type, fields <= MOST_FIELDS, true);
    }

    private static Set<String> methods(Class<?> face) {
        Set<String> names = new TreeSet<>();
        Set<String> open = new TreeSet<>();
        for (Method method : face.getDeclaredMethods()) {
            StringBuilder text = new StringBuilder(method.getName()).append('(');
            for (Class<?> type : method.getParameterTypes()) {
                text.append(text.charAt(text.length() - 1) == '(' ? "" : ",").append(type.getName());
            }
            if (!Modifier.isPrivate(method.getModifiers())) {
                names.add(text.append(')').toString());
                open.add(method.getName());
                due(method + " answers", method.getReturnType(), int.class);
                due(method + " is", Modifier.toString(method.getModifiers()), "public");
            }
        }
        for (Method method : face.getDeclaredMethods()) {
            boolean hides = Modifier.isPrivate(method.getModifiers()) && open.contains(method.getName());
            due(method + " bears a public name", hides, false);
        }
        return names;
    }

    private static Set<String> constants(Class<?> face) throws IllegalAccessException {
        Set<String> found = new TreeSet<>();
        for (Field field : face.getDeclaredFields()) {
            if (!Modifier.isPrivate(field.getModifiers())) {
                due(field.getName() + " is", Modifier.toString(field.getModifiers()), "public static final");
                found.add(field.getName() + "=" + field.getInt(null));
            }
        }
        return found;
    }
}
