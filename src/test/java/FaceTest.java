import java.lang.reflect.Constructor;
import java.lang.reflect.Field;
import java.lang.reflect.Method;
import java.lang.reflect.Modifier;
import java.util.Arrays;
import java.util.Set;
import java.util.TreeSet;

/** The public face of the document, and nothing beside it; rules 1, 5 and 11 of LANGUAGE.md. */
final class FaceTest {
    private static final Check CHECK = new Check("FaceTest");
    private static final String[] METHODS = {
        "int append(int, int, int, int, int)", "int load(int)", "int errorOffset()", "int state(int)",
        "int stands(int, int, int)", "int plane(int, int)", "int hole(int, int)", "int sees(int, int, int)",
        "int shown(int, int)", "int why(int, int, int, int)", "int viewer(int, int)", "int price(int, int)",
        "int bestPull(int, int)", "int foretold(int, int)", "int emptyIn()", "float meanPaid()", "int pass(int)",
        "int pull(int, int)", "int come(int, int, int)", "int length(int)", "int undo()", "long checksum()"};

    public static void main(String[] args) {
        constants();
        methods();
        Constructor<?>[] constructors = PeepBox.class.getDeclaredConstructors();
        CHECK.same("constructors", constructors.length, 1);
        CHECK.same("public constructor", constructors[0].getModifiers() & Modifier.PUBLIC, Modifier.PUBLIC);
        CHECK.same("its parameters", constructors[0].getParameterCount(), 0);
        int face = PeepBox.class.getModifiers();
        CHECK.same("public and final", Modifier.isPublic(face) && Modifier.isFinal(face) ? 1 : 0, 1);
        classes();
        CHECK.finish();
    }

    private static void constants() {
        CHECK.same("SYNTAX_ERROR", PeepBox.SYNTAX_ERROR, -2);
        CHECK.same("OUT_OF_RANGE", PeepBox.OUT_OF_RANGE, -3);
        CHECK.same("WRONG_LINE", PeepBox.WRONG_LINE, -4);
        CHECK.same("TOO_MANY", PeepBox.TOO_MANY, -5);
        CHECK.same("TOO_DEEP", PeepBox.TOO_DEEP, -6);
        int open = 0;
        for (Field field : PeepBox.class.getDeclaredFields()) {
            open += Modifier.isPrivate(field.getModifiers()) ? 0 : 1;
        }
        CHECK.same("fields that are not private", open, 5);
    }

    private static void methods() {
        Set<String> due = new TreeSet<>(Arrays.asList(METHODS));
        Set<String> names = new TreeSet<>();
        for (Method method : PeepBox.class.getDeclaredMethods()) {
            if (!Modifier.isPrivate(method.getModifiers())) {
                names.add(method.getName());
                if (!due.remove(signature(method))) {
                    CHECK.tell("not of the face: " + signature(method));
                }
                CHECK.same(method + " is public", method.getModifiers(), Modifier.PUBLIC);
            }
        }
        if (!due.isEmpty()) {
            CHECK.tell("missing: " + due);
        }
        for (Method method : PeepBox.class.getDeclaredMethods()) {
            if (Modifier.isPrivate(method.getModifiers()) && names.contains(method.getName())) {
                CHECK.tell("private with a public one's name: " + signature(method));
            }
        }
    }

    private static String signature(Method method) {
        String parameters = Arrays.toString(method.getParameterTypes());
        return method.getReturnType() + " " + method.getName()
                + "(" + parameters.substring(1, parameters.length() - 1) + ")";
    }

    private static void classes() {
        Class<?>[] inside = PeepBox.class.getDeclaredClasses();
        CHECK.same("at most 12 classes", inside.length < 12 ? 1 : 0, 1);
        fields(PeepBox.class);
        for (Class<?> one : inside) {
            int modifiers = one.getModifiers();
            CHECK.same(one + " static", Modifier.isStatic(modifiers) ? 1 : 0, 1);
            CHECK.same(one + " open", modifiers & (Modifier.PUBLIC | Modifier.PROTECTED), 0);
            fields(one);
        }
    }

    private static void fields(Class<?> one) {
        int own = 0;
        for (Field field : one.getDeclaredFields()) {
            if (!Modifier.isStatic(field.getModifiers())) {
                own++;
            } else if (!Modifier.isFinal(field.getModifiers())) {
                CHECK.tell("static but not final: " + field);
            }
        }
        CHECK.same(one + " has at most 20 fields", own <= 20 ? 1 : 0, 1);
        for (Method method : one.getDeclaredMethods()) {
            CHECK.same(method + " has at most 7 parameters", method.getParameterCount() <= 7 ? 1 : 0, 1);
        }
    }
}
