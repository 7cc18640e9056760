import java.io.IOException;
import java.lang.reflect.Method;
import java.lang.reflect.Modifier;
import java.nio.file.Files;
import java.nio.file.Path;
import java.util.Arrays;
import java.util.regex.Matcher;
import java.util.regex.Pattern;

/** What README.md shows of the class holds. */
public final class ReadmeTest {
    private static final Path PAGE = Path.of("README.md");
    private static final Pattern CALL = Pattern.compile("x\\.(\\w+)\\(([^)]*)\\); +// (-?\\d+): .+");

    public static void main(String[] args) throws IOException, ReflectiveOperationException {
        String page = Files.readString(PAGE);
        exampleAnswersAsShown(page);
        eachCallIsNamed(page);
        refusalsAreNamed(page);
        Check.end();
    }

    private static void exampleAnswersAsShown(String page) throws ReflectiveOperationException {
        int start = page.indexOf("```java\n") + "```java\n".length();
        String[] lines = page.substring(start, page.indexOf("```", start)).split("\n");
        Check.holds("the example makes an object", lines[0].equals("SameLetters x = new SameLetters();"));
        SameLetters x = new SameLetters();
        for (String line : Arrays.copyOfRange(lines, 1, lines.length)) {
            Matcher call = CALL.matcher(line);
            boolean isCall = call.matches();
            Check.holds("a call and what it answers: " + line, isCall);
            if (isCall) {
                Check.due(line, answer(x, call.group(1), call.group(2)), Long.parseLong(call.group(3)));
            }
        }
    }

    private static long answer(SameLetters x, String name, String told) throws ReflectiveOperationException {
        String[] numbers = told.isEmpty() ? new String[0] : told.split(", ");
        for (Method method : SameLetters.class.getDeclaredMethods()) {
            if (method.getName().equals(name) && method.getParameterCount() == numbers.length) {
                Object[] given = new Object[numbers.length];
                for (int i = 0; i < numbers.length; i++) {
                    long number = Long.decode(numbers[i].replace("L", ""));
                    given[i] = method.getParameterTypes()[i] == long.class ? (Object) number : (Object) (int) number;
                }
                return ((Number) method.invoke(x, given)).longValue();
            }
        }
        throw new NoSuchMethodException(name);
    }

    private static void eachCallIsNamed(String page) {
        for (Method method : SameLetters.class.getDeclaredMethods()) {
            if (Modifier.isPublic(method.getModifiers())) {
                Check.holds("README.md names " + method.getName(), page.contains("`" + method.getName() + "`"));
            }
        }
    }

    private static void refusalsAreNamed(String page) {
        Check.holds("BAD", page.contains("`BAD` (" + SameLetters.BAD + ")"));
        Check.holds("STATE", page.contains("`STATE` (" + SameLetters.STATE + ")"));
        Check.holds("FULL", page.contains("`FULL` (" + SameLetters.FULL + ")"));
        Check.holds("NONE", page.contains("`NONE` (" + SameLetters.NONE + ")"));
        Check.holds("NO", page.contains("`NO` (" + SameLetters.NO + ")"));
    }
}
