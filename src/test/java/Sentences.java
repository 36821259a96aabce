import java.io.IOException;
import java.nio.file.DirectoryStream;
import java.nio.file.Files;
import java.nio.file.Path;
import java.util.ArrayList;
import java.util.Comparator;
import java.util.List;
import java.util.regex.Matcher;
import java.util.regex.Pattern;

/**
 * A list for the reader, no test: what of the document no test quotes by Check.says, and which quoted sentences the
 * document does not have (any more). It is run in the project's folder.
 */
public final class Sentences {
    private static final Pattern QUOTE =
            Pattern.compile("Check\\.says\\(((?:\\s*\\+?\\s*\"(?:[^\"\\\\]|\\\\.)*\")+)\\)");
    private static final Pattern PART = Pattern.compile("\"((?:[^\"\\\\]|\\\\.)*)\"");

    private Sentences() {
    }

    public static void main(String[] args) throws IOException {
        String document = plain(Files.readString(Path.of("../shared/DOC.md")));
        List<String> quotes = quotes();
        quotes.sort(Comparator.comparingInt(String::length).reversed());
        String rest = document.substring(document.indexOf("## Description"));
        for (String quote : quotes) {
            if (!document.contains(quote)) {
                System.out.println("not in the document: " + quote);
            }
            rest = rest.replace(quote, "\n");
        }
        System.out.println("no test quotes:");
        rest.lines().map(String::trim).filter(line -> !line.isEmpty()).forEach(line -> System.out.println("  " + line));
    }

    private static String plain(String text) {
        return text.replaceAll("\\s+", " ").trim();
    }

    private static List<String> quotes() throws IOException {
        List<String> quotes = new ArrayList<>();
        try (DirectoryStream<Path> tests = Files.newDirectoryStream(Path.of("src/test/java"), "*Test.java")) {
            for (Path test : tests) {
                Matcher quote = QUOTE.matcher(Files.readString(test));
                while (quote.find()) {
                    StringBuilder sentence = new StringBuilder();
                    Matcher part = PART.matcher(quote.group(1));
                    while (part.find()) {
                        sentence.append(part.group(1));
                    }
                    quotes.add(plain(sentence.toString()));
                }
            }
        }
        return quotes;
    }
}
