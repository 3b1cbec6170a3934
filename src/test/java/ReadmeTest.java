import java.io.IOException;
import java.lang.reflect.Method;
import java.lang.reflect.Modifier;
import java.nio.file.DirectoryStream;
import java.nio.file.Files;
import java.nio.file.Path;
import java.util.Set;
import java.util.TreeSet;
import java.util.regex.Matcher;
import java.util.regex.Pattern;

/** README.md holds for the class as it stands: its answers, its texts, the calls and tests it names. */
public final class ReadmeTest {
    private static final Check CHECK = new Check();
    private static final Pattern BLOCK = Pattern.compile("(?s)```java\n(.*?)```");
    private static final Pattern LETTERS = Pattern.compile("for \\(char letter : \"([^\"]*)\"\\.toCharArray\\(\\)\\) \\{");
    private static final Pattern CALL = Pattern.compile("survey\\.(\\w+)\\(([-0-9, ]*)\\); +// (-?\\w+)\\b.*");
    private static final Pattern TEXT = Pattern.compile("(?m)^\\| `([^`|]*)` \\| (-?\\d+) \\| ");

    private LadderSurvey survey;
    private int calls;
    private final Set<String> answered = new TreeSet<>();

    public static void main(String[] args) throws IOException, ReflectiveOperationException {
        String readme = Files.readString(Path.of("README.md"));
        new ReadmeTest().answers(readme);
        texts(readme);
        allCallsAreNamed(readme);
        allTestsAreNamed(readme);
        CHECK.end();
    }

    private void answers(String readme) throws ReflectiveOperationException {
        Matcher block = BLOCK.matcher(readme);
        while (block.find()) {
            for (String line : block.group(1).split("\n")) {
                line(line.strip());
            }
        }
        CHECK.due(1, "calls of one object, 512 at most: " + calls, calls <= 512 ? 1 : 0, 1);
        // All but those that the loop of type() and the texts below ask for.
        CHECK.due(1, "calls with an example: " + answered, answered.size() >= 25 ? 1 : 0, 1);
    }

    private void line(String line) throws ReflectiveOperationException {
        Matcher letters = LETTERS.matcher(line);
        Matcher call = CALL.matcher(line);
        if (line.equals("LadderSurvey survey = new LadderSurvey();")) {
            survey = new LadderSurvey();
        } else if (letters.matches()) {
            calls += letters.group(1).length();
            Check.type(survey, letters.group(1));
        } else if (call.matches()) {
            ask(line, call.group(1), call.group(2), call.group(3));
        } else if (!line.startsWith("survey.type(letter);") && !line.equals("}")) {
            CHECK.fail("README.md: what is this line: " + line);
        }
    }

    private void ask(String line, String name, String numbers, String answer) throws ReflectiveOperationException {
        String[] parts = numbers.isBlank() ? new String[0] : numbers.split(", ");
        Object[] arguments = new Object[parts.length];
        for (int i = 0; i < parts.length; i++) {
            arguments[i] = Integer.valueOf(parts[i]);
        }
        for (Method method : LadderSurvey.class.getMethods()) {
            if (method.getName().equals(name) && method.getParameterCount() == parts.length) {
                calls++;
                answered.add(name);
                long got = ((Number) method.invoke(survey, arguments)).longValue();
                CHECK.due(0, "README.md: " + line, got, number(answer));
                return;
            }
        }
        CHECK.fail("README.md: no such call: " + line);
    }

    private static long number(String answer) throws ReflectiveOperationException {
        if (answer.matches("[A-Z]+")) {
            return LadderSurvey.class.getField(answer).getInt(null);
        }
        return Long.parseLong(answer);
    }

    private static void texts(String readme) {
        int texts = 0;
        Matcher text = TEXT.matcher(readme);
        while (text.find()) {
            texts++;
            LadderSurvey x = new LadderSurvey();
            CHECK.due(4, "README.md: " + text.group(), Check.tell(x, text.group(1)), Integer.parseInt(text.group(2)));
        }
        CHECK.due(4, "README.md: enough texts, " + texts, texts >= 9 ? 1 : 0, 1);
    }

    private static void allCallsAreNamed(String readme) {
        for (Method method : LadderSurvey.class.getDeclaredMethods()) {
            if (Modifier.isPublic(method.getModifiers())) {
                boolean named = readme.contains("`" + method.getName() + "(");
                CHECK.due(0, "README.md names " + method.getName(), named ? 1 : 0, 1);
            }
        }
    }

    private static void allTestsAreNamed(String readme) throws IOException {
        Set<String> stand = new TreeSet<>();
        try (DirectoryStream<Path> tests = Files.newDirectoryStream(Path.of("src/test/java"), "*Test.java")) {
            for (Path test : tests) {
                stand.add(test.getFileName().toString().replace(".java", ""));
            }
        }
        Set<String> named = new TreeSet<>();
        Matcher name = Pattern.compile("(?m)^\\| (\\w+Test) \\|").matcher(readme);
        while (name.find()) {
            named.add(name.group(1));
        }
        CHECK.due(0, "README.md names " + named + ", there are " + stand, named.equals(stand) ? 1 : 0, 1);
    }
}
