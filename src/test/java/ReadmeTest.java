import java.io.ByteArrayOutputStream;
import java.io.IOException;
import java.io.PrintStream;
import java.nio.charset.StandardCharsets;
import java.nio.file.DirectoryStream;
import java.nio.file.Files;
import java.nio.file.Path;
import java.util.ArrayList;
import java.util.List;
import java.util.regex.Matcher;
import java.util.regex.Pattern;

/** README.md holds for the class as it stands. It is run in the project's folder. */
public final class ReadmeTest {
    private static final Path TESTS = Path.of("src/test/java");

    private ReadmeTest() {
    }

    public static void main(String[] args) throws IOException {
        String readme = Files.readString(Path.of("README.md"));
        String example = Files.readString(TESTS.resolve("Example.java"));
        Check.due("the README quotes the example whole", true, () -> readme.contains("```java\n" + example + "```"));
        Check.due("the example prints what its comments say", answersIn(example), ReadmeTest::printed);
        for (String name : namesOf("*Test.java")) {
            Check.due("the README names " + name, true, () -> readme.contains("`" + name + "`"));
        }
        for (String name : all("`(\\w+Test)`", readme)) {
            Check.due(name + " of the README is there", true, () -> Files.exists(TESTS.resolve(name + ".java")));
        }
        methods(readme);
        samples(readme);
        Check.close("ReadmeTest");
    }

    /** Every call that the README shows in back quotes is one of the face, and every one of the face is shown. */
    private static void methods(String readme) {
        String prose = readme.replaceAll("(?s)```.*?```", "");
        List<String> shown = all("`(\\w+)\\([^`]*\\)`", prose);
        List<String> face = new ArrayList<>(List.of("DriverHost"));
        for (java.lang.reflect.Method method : DriverHost.class.getDeclaredMethods()) {
            if (java.lang.reflect.Modifier.isPublic(method.getModifiers())) {
                face.add(method.getName());
            }
        }
        for (String name : shown) {
            Check.due(name + " is a call of the face", true, () -> face.contains(name));
        }
        for (String name : face) {
            Check.due("the README shows " + name, true, () -> shown.contains(name));
        }
    }

    private static void samples(String readme) {
        String condition = "[reg 0=arg or reg 1>7]";
        Check.due("the README shows " + condition, true, () -> readme.contains("`" + condition + "`"));
        Check.accepts("drivers 1;command a check " + condition + " time 1;", 1);
        String query = "many state=3 and not (failure=4 or driver=0)";
        Check.due("the README shows " + query, true, () -> readme.contains("`" + query + "`"));
        Check.due(query, 0, () -> Check.query(new DriverHost(), query));
    }

    private static List<String> all(String pattern, String text) {
        List<String> found = new ArrayList<>();
        Matcher matcher = Pattern.compile(pattern).matcher(text);
        while (matcher.find()) {
            found.add(matcher.group(1));
        }
        return found;
    }

    private static List<String> answersIn(String example) {
        return all("System\\.out\\.println\\(.*\\); *// (-?\\d+) \\(", example);
    }

    private static List<String> printed() {
        PrintStream before = System.out;
        ByteArrayOutputStream bytes = new ByteArrayOutputStream();
        System.setOut(new PrintStream(bytes, true, StandardCharsets.UTF_8));
        try {
            Example.main(new String[0]);
        } finally {
            System.setOut(before);
        }
        return bytes.toString(StandardCharsets.UTF_8).lines().toList();
    }

    private static List<String> namesOf(String pattern) throws IOException {
        List<String> names = new ArrayList<>();
        try (DirectoryStream<Path> files = Files.newDirectoryStream(TESTS, pattern)) {
            for (Path file : files) {
                names.add(file.getFileName().toString().replace(".java", ""));
            }
        }
        return names;
    }
}
