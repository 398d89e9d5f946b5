import java.io.IOException;
import java.lang.reflect.Field;
import java.lang.reflect.InvocationTargetException;
import java.lang.reflect.Method;
import java.lang.reflect.Modifier;
import java.nio.file.Files;
import java.nio.file.Path;
import java.util.regex.Matcher;
import java.util.regex.Pattern;

/** What README.md says of the class: its examples are run as they stand there. */
final class ReadmeTest {
    private static final Check CHECK = new Check("ReadmeTest");
    private static final Pattern CALL =
            Pattern.compile("box\\.(\\w+)\\(([-0-9, ]*)\\); +// (-?[0-9.]*[0-9]|\\w+Exception)\\b.*");
    private static final Pattern ERROR =
            Pattern.compile("\\| `(\\w+)` \\((-[0-9])\\) \\|.*\\| `(.*)` \\| ([0-9]+) \\|");

    public static void main(String[] args) throws IOException, ReflectiveOperationException {
        String readme = Files.readString(Path.of("README.md"));
        nothingIsLeftOut(readme);
        example(readme);
        errors(readme);
        CHECK.finish();
    }

    private static void nothingIsLeftOut(String readme) {
        for (Method method : PeepBox.class.getDeclaredMethods()) {
            if (Modifier.isPublic(method.getModifiers())) {
                has(readme, "| `" + method.getName() + "(");
            }
        }
        for (Field field : PeepBox.class.getDeclaredFields()) {
            if (Modifier.isPublic(field.getModifiers())) {
                has(readme, "| `" + field.getName() + "` (");
            }
        }
    }

    private static void has(String readme, String part) {
        if (!readme.contains(part)) {
            CHECK.tell("README.md does not tell of " + part);
        }
    }

    private static void example(String readme) throws ReflectiveOperationException {
        int begin = readme.indexOf("```setup\n") + 9;
        String setup = readme.substring(begin, readme.indexOf("\n```", begin)).replace('\n', ' ');
        PeepBox box = new PeepBox();
        CHECK.same("load of the example", Check.load(box, setup), 3);
        int calls = 0;
        Matcher call = CALL.matcher(readme);
        while (call.find()) {
            String got = answer(box, call.group(1), call.group(2));
            if (!got.equals(call.group(3))) {
                CHECK.tell(call.group() + " answered " + got);
            }
            calls++;
        }
        CHECK.same("calls of the example", calls, 22);
    }

    private static String answer(PeepBox box, String name, String given) throws ReflectiveOperationException {
        String[] numbers = given.isEmpty() ? new String[0] : given.split(", ");
        Class<?>[] types = new Class<?>[numbers.length];
        Object[] values = new Object[numbers.length];
        for (int i = 0; i < numbers.length; i++) {
            types[i] = int.class;
            values[i] = Integer.valueOf(numbers[i]);
        }
        try {
            return String.valueOf(PeepBox.class.getMethod(name, types).invoke(box, values));
        } catch (InvocationTargetException e) {
            return e.getCause().getClass().getSimpleName();
        }
    }

    private static void errors(String readme) throws ReflectiveOperationException {
        int found = 0;
        Matcher error = ERROR.matcher(readme);
        while (error.find()) {
            int code = PeepBox.class.getField(error.group(1)).getInt(null);
            CHECK.same(error.group(1), Integer.parseInt(error.group(2)), code);
            PeepBox box = new PeepBox();
            CHECK.same("load of " + error.group(3), Check.load(box, error.group(3)), code);
            CHECK.same("errorOffset of " + error.group(3), box.errorOffset(), Integer.parseInt(error.group(4)));
            found++;
        }
        CHECK.same("errors told", found, 5);
    }
}
