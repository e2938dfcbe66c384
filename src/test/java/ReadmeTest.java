import java.io.IOException;
import java.lang.reflect.Method;
import java.lang.reflect.Modifier;
import java.nio.file.Files;
import java.nio.file.Path;
import java.util.regex.Matcher;
import java.util.regex.Pattern;

/** README.md names every call, and the answers in its example are those that come. */
public final class ReadmeTest {
    /** A call of the example with numbers alone, and behind it the answer. */
    private static final Pattern TOLD = Pattern.compile("(?m)^x\\.(\\w+)\\((.*)\\);\\s+// (-?\\w+)");

    private ReadmeTest() {
    }

    public static void main(String[] args) throws Exception {
        String readme = Files.readString(Path.of("README.md"));
        example(readme);
        for (Method call : SinglesPast.class.getDeclaredMethods()) {
            if (Modifier.isPublic(call.getModifiers())) {
                Check.is(call.getName() + " is named", readme.contains("`" + call.getName() + "`"), true);
            }
        }
        Check.end();
    }

    private static void example(String readme) throws ReflectiveOperationException {
        SinglesPast x = new SinglesPast();
        int calls = 0;
        Matcher told = TOLD.matcher(readme);
        while (told.find()) {
            String[] words = told.group(2).isEmpty() ? new String[0] : told.group(2).split(", ");
            Object[] numbers = new Object[words.length];
            Class<?>[] types = new Class<?>[words.length];
            for (int i = 0; i < words.length; i++) {
                numbers[i] = Integer.decode(words[i]);
                types[i] = int.class;
            }
            Object got = SinglesPast.class.getMethod(told.group(1), types).invoke(x, numbers);
            Check.is(told.group().replaceAll("\\s+//.*", ""), String.valueOf(got), told.group(3));
            calls++;
        }
        Check.is("calls of the example", calls, 13);
    }
}
