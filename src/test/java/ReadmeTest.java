import java.io.IOException;
import java.lang.reflect.Method;
import java.nio.file.DirectoryStream;
import java.nio.file.Files;
import java.nio.file.Path;
import java.util.List;
import java.util.Set;
import java.util.TreeSet;
import java.util.regex.Matcher;
import java.util.regex.Pattern;

/** README.md: each call that it shows answers what it says there, and each test there is stands in it. */
public final class ReadmeTest {
    private static final Path README = Path.of("README.md"), TESTS = Path.of("src", "test", "java");
    private static final Pattern CALL = Pattern.compile("x\\.(\\w+)\\(([^)]*)\\); +// (-?\\d+)\\b.*");
    private static final Pattern TELL = Pattern.compile("tell\\(x, \"([^\"]*)\"\\); +// (-?\\d+)\\b.*");
    private static final Pattern NAME = Pattern.compile("\\b[A-Z]\\w*Test\\b");
    private static final Due due = new Due("ReadmeTest");

    public static void main(String[] args) throws Exception {
        example();
        names();
        due.end();
    }

    private static void example() throws Exception {
        LightHalves x = new LightHalves();
        Set<String> called = new TreeSet<>();
        for (String line : Files.readAllLines(README)) {
            Matcher call = CALL.matcher(line);
            Matcher tell = TELL.matcher(line);
            if (call.matches()) {
                called.add(call.group(1));
                due.is(line, answerOf(x, call.group(1), call.group(2)), Integer.parseInt(call.group(3)));
            } else if (tell.matches()) {
                due.is(line, Due.rules(x, tell.group(1)), Integer.parseInt(tell.group(2)));
            } else if (line.startsWith("x.") || line.startsWith("tell(")) {
                due.isWrong("no answer stands by " + line);
            }
        }
        due.is("calls shown: " + called, called.size() >= 30 ? 1 : 0, 1);
    }

    private static int answerOf(LightHalves x, String name, String args) throws Exception {
        String[] numbers = args.isEmpty() ? new String[0] : args.split(", ");
        for (Method m : LightHalves.class.getMethods()) {
            if (m.getName().equals(name) && m.getParameterCount() == numbers.length) {
                Object[] given = new Object[numbers.length];
                for (int i = 0; i < numbers.length; i++) {
                    boolean isLong = m.getParameterTypes()[i] == long.class;
                    given[i] = isLong ? (Object) Long.decode(numbers[i]) : (Object) Integer.decode(numbers[i]);
                }
                return (int) m.invoke(x, given);
            }
        }
        due.isWrong("README.md shows a call that the class hasn't: " + name + "(" + args + ")");
        return 0;
    }

    private static void names() throws IOException {
        Set<String> named = new TreeSet<>();
        Matcher m = NAME.matcher(String.join("\n", Files.readAllLines(README)));
        while (m.find()) {
            named.add(m.group());
        }
        Set<String> there = new TreeSet<>();
        try (DirectoryStream<Path> tests = Files.newDirectoryStream(TESTS, "*Test.java")) {
            for (Path test : tests) {
                there.add(test.getFileName().toString().replace(".java", ""));
            }
        }
        for (String name : List.copyOf(there)) {
            due.is("README.md names " + name, named.contains(name) ? 1 : 0, 1);
        }
        for (String name : named) {
            due.is("there is " + name, there.contains(name) ? 1 : 0, 1);
        }
    }
}
