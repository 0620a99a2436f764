import java.io.IOException;
import java.lang.reflect.Field;
import java.lang.reflect.Method;
import java.lang.reflect.Modifier;
import java.nio.file.DirectoryStream;
import java.nio.file.Files;
import java.nio.file.Path;
import java.util.ArrayList;
import java.util.Arrays;
import java.util.List;
import java.util.Set;
import java.util.TreeSet;
import java.util.regex.Matcher;
import java.util.regex.Pattern;

/** The document as a whole: its face is the class's, and no sentence of it is without a test that tells it. */
public final class DocumentTest {
    private static final Path SOURCE = Path.of("src", "main", "java", "LightHalves.java");
    private static final Path TESTS = Path.of("src", "test", "java");
    private static final Pattern CALL = Pattern.compile("public int (\\w+)\\(([^)]*)\\);");
    private static final Pattern CONSTANT = Pattern.compile("(\\w+) = (-\\d+)");
    private static final Pattern HEADING = Pattern.compile("(Ahead of the calls .*) the interface says: (---- .*)\\.");
    private static final Pattern STRING = Pattern.compile("\"((?:[^\"\\\\]|\\\\.)*)\"");
    private static final Pattern TOLD = Pattern.compile("\\b(?:says|body)\\(\\s*(" + STRING + "(?:\\s*\\+\\s*" + STRING + ")*)");
    private static final Due due = new Due("DocumentTest");

    public static void main(String[] args) throws Exception {
        if (Document.isHere()) {
            constants();
            calls();
            headings();
            everySentenceIsTold();
        }
        due.end();
    }

    private static List<String> face() {
        List<String> lines = Document.lines();
        int from = lines.indexOf("```java");
        return lines.subList(from, from + lines.subList(from, lines.size()).indexOf("```"));
    }

    private static void same(String what, Object got, Object want) {
        if (!got.equals(want)) {
            due.isWrong(what + " is " + got + ", due is " + want);
        }
    }

    private static void constants() throws Exception {
        Set<String> wanted = new TreeSet<>();
        for (String line : face()) {
            Matcher m = CONSTANT.matcher(line);
            while (m.find()) {
                wanted.add(m.group(1));
                due.is(m.group(1), LightHalves.class.getField(m.group(1)).getInt(null), Integer.parseInt(m.group(2)));
            }
        }
        Set<String> found = new TreeSet<>();
        for (Field f : LightHalves.class.getFields()) {
            found.add(f.getName());
        }
        same("the face's constants", found, wanted);
        same("the class", Modifier.toString(LightHalves.class.getModifiers()), "public final");
        due.is("public constructors", LightHalves.class.getConstructors().length, 1);
        due.is("what it is made of", LightHalves.class.getConstructors()[0].getParameterCount(), 0);
    }

    private static void calls() {
        Set<String> wanted = new TreeSet<>();
        for (String line : face()) {
            Matcher m = CALL.matcher(line);
            if (m.find()) {
                wanted.add("int " + m.group(1) + "(" + m.group(2).replaceAll("(\\w+) \\w+", "$1") + ")");
            }
        }
        Set<String> found = new TreeSet<>();
        for (Method m : LightHalves.class.getDeclaredMethods()) {
            if (Modifier.isPublic(m.getModifiers())) {
                List<String> types = new ArrayList<>();
                Arrays.stream(m.getParameterTypes()).forEach(t -> types.add(t.getSimpleName()));
                found.add(m.getReturnType() + " " + m.getName() + "(" + String.join(", ", types) + ")");
            }
        }
        same("the face's calls", found, wanted);
    }

    /** The class's calls stand under the headings, and in the order, that the document tells. */
    private static void headings() throws IOException {
        String source = Files.readString(SOURCE);
        for (String line : Document.lines()) {
            Matcher m = HEADING.matcher(line);
            if (m.matches()) {
                int from = source.indexOf("// " + m.group(2) + "\n");
                int to = source.indexOf("    // ", Math.max(0, from) + 3);
                List<String> wanted = all("`(\\w+)`", m.group(1));
                same("under " + m.group(2), all("public int (\\w+)\\(", source.substring(Math.max(0, from), to)), wanted);
            }
        }
    }

    private static List<String> all(String pattern, String text) {
        List<String> found = new ArrayList<>();
        Matcher m = Pattern.compile(pattern).matcher(text);
        while (m.find()) {
            found.add(m.group(1));
        }
        return found;
    }

    /** What the document says from "Terms" to "Not promised", without headings and names of calls. */
    private static String sentences() {
        List<String> lines = Document.lines();
        List<String> said = new ArrayList<>();
        for (String line : lines.subList(lines.indexOf("## Terms") + 1, lines.indexOf("## Not promised"))) {
            boolean isHeading = line.startsWith("## ") || line.startsWith("```") || HEADING.matcher(line).matches();
            if (!isHeading) {
                said.add(line.replaceAll("^======== \\d|^`[^`]*`: ", ""));
            }
        }
        return Document.spaced(String.join(" ", said));
    }

    private static List<String> toldByTests() throws IOException {
        List<String> told = new ArrayList<>();
        try (DirectoryStream<Path> tests = Files.newDirectoryStream(TESTS, "*Test.java")) {
            for (Path test : tests) {
                for (String strings : all(TOLD.pattern(), Files.readString(test))) {
                    String words = String.join("", all(STRING.pattern(), strings));
                    told.add(Document.spaced(words.replace("\\\"", "\"")));
                }
            }
        }
        return told;
    }

    private static void everySentenceIsTold() throws IOException {
        String said = sentences();
        StringBuilder untold = new StringBuilder(said);
        for (String words : toldByTests()) {
            for (int at = said.indexOf(words); at >= 0; at = said.indexOf(words, at + 1)) {
                untold.replace(at, at + words.length(), "\n".repeat(words.length()));
            }
        }
        for (String words : untold.toString().split("\n+")) {
            if (words.matches(".*\\w.*")) {
                due.isWrong("no test tells of [" + words.trim() + "]");
            }
        }
    }
}
