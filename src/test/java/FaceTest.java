import java.lang.reflect.Constructor;
import java.lang.reflect.Field;
import java.lang.reflect.Method;
import java.lang.reflect.Modifier;
import java.util.Set;
import java.util.TreeSet;

/** The public face: the document's constructor and methods, and nothing else that others could see. */
public final class FaceTest {
    private static final String INDEX = " IndexOutOfBoundsException";
    private static final String STATE = " IllegalStateException";
    private static final String ARGUMENT = " IllegalArgumentException";

    private FaceTest() {
    }

    public static void main(String[] args) {
        Check.same("public and final", SharedForks.class.getModifiers(), Modifier.PUBLIC | Modifier.FINAL);
        constructor();
        methods();
        fields();
        classesInside();
        Check.end();
    }

    private static void constructor() {
        Constructor<?>[] constructors = SharedForks.class.getDeclaredConstructors();
        Check.same("constructors", constructors.length, 1);
        Check.same("the constructor", constructors[0].toString(), "public SharedForks()");
    }

    private static void methods() {
        Set<String> due = new TreeSet<>(Set.of(
                "int leaf boolean" + STATE, "int ask int" + INDEX + STATE,
                "int join int int int" + INDEX + STATE, "int choose int int int" + INDEX + STATE,
                "int given int int boolean" + INDEX + STATE, "int without int int boolean" + INDEX + STATE,
                "int drop int" + INDEX, "int swap int" + INDEX, "int order int" + INDEX,
                "boolean says int int" + INDEX + ARGUMENT, "int fork int int int" + INDEX,
                "int about int int" + INDEX, "double asked int" + INDEX, "int compare int int" + INDEX,
                "int count int" + INDEX, "boolean has int" + INDEX, "int advise",
                "int would int int int" + INDEX, "double mean", "long digest"));
        Set<String> names = new TreeSet<>();
        for (String text : due) {
            names.add(text.split(" ")[1]);
        }
        Set<String> got = new TreeSet<>();
        for (Method method : SharedForks.class.getDeclaredMethods()) {
            if (Modifier.isPrivate(method.getModifiers())) {
                Check.same("private " + method.getName(), names.contains(method.getName()), false);
            } else {
                got.add(text(method));
                Check.same(method.getName(), method.getModifiers(), Modifier.PUBLIC);
            }
        }
        Check.same("methods", got, due);
    }

    private static String text(Method method) {
        StringBuilder text = new StringBuilder();
        text.append(method.getReturnType().getSimpleName()).append(' ').append(method.getName());
        for (Class<?> type : method.getParameterTypes()) {
            text.append(' ').append(type.getSimpleName());
        }
        for (Class<?> type : method.getExceptionTypes()) {
            text.append(' ').append(type.getSimpleName());
        }
        return text.toString();
    }

    private static void fields() {
        for (Field field : SharedForks.class.getDeclaredFields()) {
            int modifiers = field.getModifiers();
            Check.same("private " + field.getName(), Modifier.isPrivate(modifiers), true);
            boolean isState = Modifier.isStatic(modifiers) && !Modifier.isFinal(modifiers);
            Check.same("static state " + field.getName(), isState, false);
        }
    }

    private static void classesInside() {
        for (Class<?> inside : SharedForks.class.getDeclaredClasses()) {
            int modifiers = inside.getModifiers();
            Check.same("static " + inside.getName(), Modifier.isStatic(modifiers), true);
            Check.same("hidden " + inside.getName(), Modifier.isPublic(modifiers), false);
        }
    }
}
