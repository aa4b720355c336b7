import java.io.File;
import java.lang.reflect.Method;
import java.lang.reflect.Modifier;
import java.nio.file.Files;
import java.nio.file.Path;
import java.util.regex.Matcher;
import java.util.regex.Pattern;

/** README.md tells of each call and each test, and the answers that it shows are the class's own. */
public final class ReadmeTest {
    private static final Pattern CALL = Pattern.compile("(?m)^x\\.(\\w+)\\(([^)]*)\\);(.*)$");
    private static final Pattern ANSWER = Pattern.compile("\\s*// (-?\\d+).*");

    public static void main(String[] args) throws Exception {
        String page = Files.readString(Path.of("README.md"));
        exampleAnswersAsShown(page);
        eachCallIsTold(page);
        eachTestIsTold(page);
        Due.end();
    }

    private static void exampleAnswersAsShown(String page) throws Exception {
        FewestCauses x = new FewestCauses();
        Matcher line = CALL.matcher(page);
        int calls = 0;
        while (line.find()) {
            calls++;
            Matcher answer = ANSWER.matcher(line.group(3));
            boolean shown = answer.matches();
            Due.holds("an answer stands behind " + line.group(), shown);
            if (shown) {
                Due.is("README: " + line.group(), answerOf(x, line.group(1), line.group(2)),
                        Long.parseLong(answer.group(1)));
            }
        }
        Due.holds("README has an example", calls > 0);
    }

    private static long answerOf(FewestCauses x, String name, String written) throws Exception {
        String[] numbers = written.isEmpty() ? new String[0] : written.split(", ");
        Object[] given = new Object[numbers.length];
        Class<?>[] kinds = new Class<?>[numbers.length];
        for (int i = 0; i < numbers.length; i++) {
            given[i] = Integer.parseInt(numbers[i]);
            kinds[i] = int.class;
        }
        Method call = FewestCauses.class.getMethod(name, kinds);
        return ((Number) call.invoke(x, given)).longValue();
    }

    private static void eachCallIsTold(String page) {
        for (Method m : FewestCauses.class.getDeclaredMethods()) {
            if (Modifier.isPublic(m.getModifiers())) {
                String row = "(?m)^\\| `" + m.getName() + "\\(\\w*(, \\w+){"
                        + Math.max(0, m.getParameterCount() - 1) + "}\\)` \\| .+ \\|$";
                Due.holds("README tells of " + m, Pattern.compile(row).matcher(page).find());
            }
        }
    }

    private static void eachTestIsTold(String page) {
        String[] files = new File("src/test/java").list();
        Due.holds("there are tests", files != null);
        for (String file : files == null ? new String[0] : files) {
            if (file.endsWith("Test.java")) {
                Due.holds("README tells of " + file, page.contains(file + "`"));
            }
        }
    }
}
