import java.io.IOException;
import java.nio.file.Files;
import java.nio.file.Path;
import java.util.ArrayList;
import java.util.List;
import java.util.regex.Matcher;
import java.util.regex.Pattern;

/** Those rules of LANGUAGE.md that the source itself shows. It is run in the project's folder. */
public final class LanguageTest {
    private LanguageTest() {
    }

    public static void main(String[] args) throws IOException {
        String source = Files.readString(Path.of("src/main/java/DriverHost.java"));
        String code = source.replaceAll("(?s)/\\*.*?\\*/", "").replaceAll("//[^\n]*", "");
        imports(code);
        forbidden(code);
        methodLengths(code);
        parameters(code);
        classes(code);
        Check.due("signs of the source", false, () -> source.chars().anyMatch(sign -> sign > 126));
        Check.close("LanguageTest");
    }

    private static List<String> all(String pattern, String text) {
        List<String> found = new ArrayList<>();
        Matcher matcher = Pattern.compile(pattern).matcher(text);
        while (matcher.find()) {
            found.add(matcher.group());
        }
        return found;
    }

    private static void imports(String code) {
        Check.due("imports", List.of("import java.util.NoSuchElementException;"), () -> all("import [^;]*;", code));
        Check.due("package lines", List.of(), () -> all("\\bpackage\\b", code));
    }

    private static void forbidden(String code) {
        String[] patterns = {"->", "::", "\\btry\\b", "\\bcatch\\b", "\\bfinally\\b", "\\bsynchronized\\b",
            "\\bassert\\b", "Exact\\(", "\\.ordinal\\(", "\\.name\\(", "\\bhashCode\\b", "\\btoString\\b",
            "static \\{", "\\bObject\\b", "\"\\s*\\+", "\\+\\s*\"", "\\bprotected\\b", "\\bSystem\\.(?!arraycopy)",
            "\\bMap\\b", "\\bvar\\b(?=\\s+\\w+\\s*=)", "\\bMath\\.(?!min|max)", "\\bcloneable\\b", "\\bThread\\b"};
        for (String pattern : patterns) {
            Check.due("no " + pattern, List.of(), () -> all(pattern, code));
        }
        for (String thrown : all("throw new \\w+", code)) {
            Check.due(thrown, true, () -> thrown.endsWith(" IllegalArgumentException")
                    || thrown.endsWith(" NoSuchElementException"));
        }
        for (String field : all("(?m)^\\s+(private |public )?static [^(=]*=.*$", code)) {
            Check.due("a static field is final: " + field.trim(), true, () -> field.contains("static final "));
        }
    }

    private static void methodLengths(String code) {
        String[] lines = code.split("\n");
        int start = 0;
        String indent = null;
        for (int n = 0; n < lines.length; n++) {
            if (indent == null && lines[n].matches(" +[^=;]*\\).*\\{") && lines[n].matches(
                    " {4}(private|public|static| {4}).*") && !lines[n].matches(" *(if|for|while|switch|else|}).*")) {
                start = n;
                indent = lines[n].replaceAll("\\S.*", "");
            } else if (indent != null && lines[n].equals(indent + "}")) {
                int length = n - start + 1;
                String name = lines[start].trim();
                Check.due("at most sixty lines: " + name, true, () -> length <= 60);
                indent = null;
            }
        }
    }

    private static void parameters(String code) {
        for (String head : all("(?m)^ {4,8}\\w[\\w \\[\\]]* \\w+\\([^()]*\\)(?= |\\n)", code)) {
            Check.due("at most seven parameters: " + head.trim(), true, () -> head.split(",").length <= 7);
        }
    }

    private static void classes(String code) {
        List<String> classes = all("\\b(class|enum|interface|record) [A-Z]\\w*", code);
        Check.due("some twelve classes, not " + classes.size(), true, () -> classes.size() <= 12);
    }
}
