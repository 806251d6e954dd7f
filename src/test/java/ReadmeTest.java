import java.io.IOException;
import java.lang.reflect.Method;
import java.lang.reflect.Modifier;
import java.nio.file.Files;
import java.nio.file.Path;
import java.util.Arrays;
import java.util.regex.Matcher;
import java.util.regex.Pattern;

/** README.md tells what is so: its example answers as it says, and it names every call. */
final class ReadmeTest {
    private static final Pattern WRITTEN = Pattern.compile("for \\(char letter : \"([^\"]*)\"");
    private static final Pattern CALL = Pattern.compile("bells\\.(\\w+)\\(([-0-9, ]*)\\); +// (-?\\d+|[A-Z]+)(:.*)?");
    private static final Due due = new Due();

    public static void main(String[] args) throws IOException, ReflectiveOperationException {
        String readme = Files.readString(Path.of("README.md"));
        example(readme);
        namesEveryCall(readme);
        due.end();
    }

    private static void example(String readme) throws ReflectiveOperationException {
        ApologyBells bells = new ApologyBells();
        int checked = 0;
        for (String line : readme.split("\\R")) {
            Matcher written = WRITTEN.matcher(line);
            if (written.find()) {
                Due.write(bells, written.group(1));
            }
            if (line.startsWith("bells.")) {
                check(bells, line);
                checked++;
            }
        }
        due.is("README.md has calls with answers", checked > 0 ? 1 : 0, 1);
    }

    private static void check(ApologyBells bells, String line) throws ReflectiveOperationException {
        Matcher call = CALL.matcher(line);
        boolean isTold = call.matches();
        due.is("README.md tells the answer of " + line, isTold ? 1 : 0, 1);
        if (isTold) {
            due.is("README.md: " + line, answer(bells, call.group(1), call.group(2)), number(call.group(3)));
        }
    }

    private static int answer(ApologyBells bells, String name, String told) throws ReflectiveOperationException {
        Object[] numbers = told.isBlank() ? new Object[0] : Arrays.stream(told.split(", ")).map(Integer::valueOf).toArray();
        Class<?>[] types = new Class<?>[numbers.length];
        Arrays.fill(types, int.class);
        return (int) ApologyBells.class.getMethod(name, types).invoke(bells, numbers);
    }

    private static int number(String told) throws ReflectiveOperationException {
        return Character.isLetter(told.charAt(0)) ? ApologyBells.class.getField(told).getInt(null) : Integer.parseInt(told);
    }

    private static void namesEveryCall(String readme) {
        for (Method method : ApologyBells.class.getDeclaredMethods()) {
            if (Modifier.isPublic(method.getModifiers())) {
                due.is("README.md names " + method.getName(), readme.contains("`" + method.getName() + "`") ? 1 : 0, 1);
            }
        }
    }
}
