import java.lang.reflect.Field;
import java.lang.reflect.Method;
import java.lang.reflect.Modifier;
import java.util.Arrays;

/** The face in the document's own words: its lines, and the line with which a promise begins. */
final class FaceSentences {
    private static final String[] CONSTANTS = {"INVALID_ARGUMENT = -1", "NOT_POSSIBLE = -2",
        "LIMIT_REACHED = -3", "NOT_FOUND = -4"};

    /** In the order of the promises 2 to 24. */
    private static final String[] CALLS = {"address(int area)", "interviewer(int area, int load)",
        "quota(int area, int group, int many)", "population(int area, int group, int people)",
        "call(int interviewer, int address, int time, int what)",
        "later(int interviewer, int address, int time, int day, int then)", "pass(int days)",
        "set(int what, int value)", "addressOf(int address, int what)",
        "interviewerOf(int interviewer, int what)", "cellOf(int area, int group, int what)",
        "addresses(int what)", "count(int what)", "next(int interviewer, int time)",
        "possible(int interviewer, int time)", "daysLeft()", "rateBits()", "partBits(int group)",
        "undo()", "type(int character)", "clearText()", "fault(int what)", "play()"};

    private static final String[][] CHAPTERS = {
        {"what there is to do", "address", "interviewer", "quota", "population"},
        {"calls", "call", "later", "pass", "set"},
        {"what there is", "addressOf", "interviewerOf", "cellOf", "addresses", "count"},
        {"what should be done", "next", "possible", "daysLeft", "rateBits", "partBits", "undo"},
        {"texts", "type", "clearText", "fault", "play"}};

    private FaceSentences() {
    }

    static void tell(Sentences all, String source) {
        String part = "The public face";
        all.of(part, "java public final class FieldQuotas {", FaceSentences::theClass);
        for (String constant : CONSTANTS) {
            all.of(part, "public static final int " + constant + ";",
                    due -> constant(due, constant));
        }
        all.of(part, "public FieldQuotas();", FaceSentences::constructor);
        for (String call : CALLS) {
            all.of(part, "public int " + call + ";", due -> call(due, call, source));
        }
        all.of(part, "}", FaceSentences::nothingElse);
        all.of("Promise 1", "FieldQuotas():", FaceSentences::constructor);
        for (int i = 0; i < CALLS.length; i++) {
            String call = CALLS[i];
            all.of("Promise " + (i + 2), "int " + call + ":", due -> call(due, call, source));
        }
        for (String[] chapter : CHAPTERS) {
            String calls = String.join(", ", Arrays.asList(chapter).subList(1, chapter.length));
            all.of("Changes and errors", "Ahead of the calls " + calls
                    + " the interface says: ---- " + chapter[0] + ".",
                    due -> chapter(due, chapter, source));
        }
    }

    private static void theClass(Due due) {
        int flags = FieldQuotas.class.getModifiers();
        due.is("public and final", flags, Modifier.PUBLIC | Modifier.FINAL);
        due.same("its name", FieldQuotas.class.getName(), "FieldQuotas");
    }

    private static void constant(Due due, String constant) {
        String[] words = constant.split(" = ");
        try {
            Field field = FieldQuotas.class.getField(words[0]);
            due.is(words[0], field.getInt(null), Integer.parseInt(words[1]));
            due.holds(words[0] + " is final", Modifier.isFinal(field.getModifiers()));
        } catch (ReflectiveOperationException missing) {
            due.holds("that there is " + words[0], false);
        }
    }

    private static void constructor(Due due) {
        due.is("constructors", FieldQuotas.class.getConstructors().length, 1);
        due.is("what it takes", FieldQuotas.class.getConstructors()[0].getParameterCount(), 0);
    }

    private static void call(Due due, String call, String source) {
        String name = call.substring(0, call.indexOf('('));
        Class<?>[] takes = new Class<?>[call.split("int ").length - 1];
        Arrays.fill(takes, int.class);
        try {
            Method method = FieldQuotas.class.getMethod(name, takes);
            due.holds(name + " returns an int", method.getReturnType() == int.class);
            due.holds(name + " is of objects", !Modifier.isStatic(method.getModifiers()));
            due.is(name + " names no exception", method.getExceptionTypes().length, 0);
        } catch (ReflectiveOperationException missing) {
            due.holds("that there is " + call, false);
        }
        due.holds("the names in " + call, source.contains("    public int " + call + " {"));
    }

    private static void nothingElse(Due due) {
        due.is("public methods", publicMethods(), CALLS.length);
        due.is("public constants", FieldQuotas.class.getFields().length, CONSTANTS.length);
        due.is("public classes inside", FieldQuotas.class.getClasses().length, 0);
    }

    private static int publicMethods() {
        int many = 0;
        for (Method method : FieldQuotas.class.getDeclaredMethods()) {
            many += Modifier.isPublic(method.getModifiers()) ? 1 : 0;
        }
        return many;
    }

    private static void chapter(Due due, String[] chapter, String source) {
        for (int i = 1; i < chapter.length; i++) {
            int at = source.indexOf("    public int " + chapter[i] + "(");
            String above = source.substring(0, at);
            String title = above.substring(above.lastIndexOf("// ----"));
            due.same("ahead of " + chapter[i], title.substring(0, title.indexOf('\n')),
                    "// ---- " + chapter[0]);
        }
    }
}
