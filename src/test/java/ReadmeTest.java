import java.io.IOException;
import java.lang.reflect.InvocationTargetException;
import java.lang.reflect.Method;
import java.nio.file.Files;
import java.nio.file.Path;
import java.util.regex.Matcher;
import java.util.regex.Pattern;

/** The example of README.md: each call answers what stands behind it there. */
public final class ReadmeTest {
    private static final Pattern CALL = Pattern.compile("mill\\.(\\w+)\\(([-0-9, ]*)\\);\\s*// (-?[0-9.]+): .*");

    public static void main(String[] args) throws IOException, ReflectiveOperationException {
        DropflagMill mill = new DropflagMill();
        int calls = 0;
        for (String row : Files.readAllLines(Path.of("README.md"))) {
            Matcher call = CALL.matcher(row);
            if (row.startsWith("mill.")) {
                Due.is("an answer stands behind " + row, call.matches(), true);
                Due.same(row, answer(mill, call.group(1), call.group(2)), call.group(3));
                calls++;
            }
        }
        Due.is("README.md has an example", calls >= 10, true);
        Due.end();
    }

    private static String answer(DropflagMill mill, String name, String told) throws ReflectiveOperationException {
        String[] numbers = told.isEmpty() ? new String[0] : told.split(", ");
        Class<?>[] types = new Class<?>[numbers.length];
        Object[] with = new Object[numbers.length];
        for (int k = 0; k < numbers.length; k++) {
            types[k] = int.class;
            with[k] = Integer.valueOf(numbers[k]);
        }
        Method method = DropflagMill.class.getMethod(name, types);
        try {
            return String.valueOf(method.invoke(mill, with));
        } catch (InvocationTargetException e) {
            return "throws " + e.getCause();
        }
    }
}
