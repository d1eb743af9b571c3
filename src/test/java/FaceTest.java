import java.lang.reflect.Constructor;
import java.lang.reflect.Field;
import java.lang.reflect.Method;
import java.lang.reflect.Modifier;
import java.util.Arrays;
import java.util.TreeSet;

/** The public face: every member of the document, and no other that can be seen from outside. */
public final class FaceTest {
    private static final String[] METHODS = {"address 1", "interviewer 2", "quota 3",
        "population 3", "call 4", "later 5", "pass 1", "set 2", "addressOf 2", "interviewerOf 2",
        "cellOf 3", "addresses 1", "count 1", "next 2", "possible 2", "daysLeft 0", "rateBits 0",
        "partBits 1", "undo 0", "type 1", "clearText 0", "fault 1", "play 0"};

    private static final Due due = new Due();

    public static void main(String[] args) throws Exception {
        constants();
        methods();
        classes();
        sizes(FieldQuotas.class);
        statics(FieldQuotas.class);
        for (Class<?> inner : FieldQuotas.class.getDeclaredClasses()) {
            sizes(inner);
            statics(inner);
        }
        due.finish();
    }

    private static void constants() throws Exception {
        String[] names = {"INVALID_ARGUMENT", "NOT_POSSIBLE", "LIMIT_REACHED", "NOT_FOUND"};
        for (int i = 0; i < names.length; i++) {
            Field field = FieldQuotas.class.getDeclaredField(names[i]);
            int wanted = Modifier.PUBLIC | Modifier.STATIC | Modifier.FINAL;
            due.is(names[i], field.getInt(null), -1 - i);
            due.is(names[i] + " is a constant", field.getModifiers(), wanted);
        }
        for (Field field : FieldQuotas.class.getDeclaredFields()) {
            boolean isKnown = Arrays.asList(names).contains(field.getName());
            due.holds(field + " is private", isKnown || Modifier.isPrivate(field.getModifiers()));
            boolean isStatic = Modifier.isStatic(field.getModifiers());
            due.holds(field + " is final", !isStatic || Modifier.isFinal(field.getModifiers()));
        }
    }

    private static void methods() {
        TreeSet<String> found = new TreeSet<>();
        for (Method method : FieldQuotas.class.getDeclaredMethods()) {
            if (Modifier.isPrivate(method.getModifiers())) {
                due.holds(method + " has a name of its own", !isName(method.getName()));
                continue;
            }
            due.is(method + " is public", method.getModifiers(), Modifier.PUBLIC);
            due.holds(method + " returns an int", method.getReturnType() == int.class);
            for (Class<?> parameter : method.getParameterTypes()) {
                due.holds(method + " takes ints", parameter == int.class);
            }
            found.add(method.getName() + " " + method.getParameterCount());
        }
        due.same("the methods", found.toString(), new TreeSet<>(Arrays.asList(METHODS)).toString());
    }

    private static boolean isName(String name) {
        for (String method : METHODS) {
            if (method.startsWith(name + " ")) {
                return true;
            }
        }
        return false;
    }

    private static void classes() {
        due.is("the class", FieldQuotas.class.getModifiers(), Modifier.PUBLIC | Modifier.FINAL);
        Constructor<?>[] constructors = FieldQuotas.class.getDeclaredConstructors();
        due.is("constructors", constructors.length, 1);
        due.is("the constructor", constructors[0].getModifiers(), Modifier.PUBLIC);
        due.is("it takes nothing", constructors[0].getParameterCount(), 0);
        int inside = FieldQuotas.class.getDeclaredClasses().length;
        due.holds("at most some twelve classes", inside < 12);
        for (Class<?> inner : FieldQuotas.class.getDeclaredClasses()) {
            int flags = inner.getModifiers();
            due.holds(inner + " is not seen", !Modifier.isPublic(flags)
                    && !Modifier.isProtected(flags) && Modifier.isStatic(flags));
            for (Method method : inner.getDeclaredMethods()) {
                due.holds(method + " has a name of its own", !isName(method.getName()));
            }
        }
    }

    private static void sizes(Class<?> type) {
        int fields = 0;
        for (Field field : type.getDeclaredFields()) {
            boolean isStatic = Modifier.isStatic(field.getModifiers());
            fields += isStatic || field.isSynthetic() ? 0 : 1;
            boolean isKnown = isStatic || field.isSynthetic() || !type.isEnum()
                    || isOneOf(field.getType(), int.class, long.class, boolean.class, String.class);
            due.holds(field + " may stand in an enum", isKnown);
        }
        due.holds(type + " has at most some twenty fields", fields <= 20);
        for (Method method : type.getDeclaredMethods()) {
            due.holds(method + " takes at most seven", method.getParameterCount() <= 7);
        }
        for (Constructor<?> constructor : type.getDeclaredConstructors()) {
            due.holds(constructor + " takes at most seven", constructor.getParameterCount() <= 7);
        }
    }

    /** Static fields are constants, or the constants of an enum. */
    private static void statics(Class<?> type) {
        for (Field field : type.getDeclaredFields()) {
            if (!Modifier.isStatic(field.getModifiers()) || field.isSynthetic()) {
                continue;
            }
            Class<?> kind = field.getType();
            boolean isEnum = kind.isEnum() || kind.isArray() && kind.getComponentType().isEnum();
            due.holds(field + " is final", Modifier.isFinal(field.getModifiers()));
            due.holds(field + " may be static", isEnum || isOneOf(kind, int.class, long.class,
                    boolean.class, char.class, String.class, int[].class, long[].class,
                    char[].class, byte[].class));
        }
    }

    private static boolean isOneOf(Class<?> kind, Class<?>... kinds) {
        return Arrays.asList(kinds).contains(kind);
    }
}
