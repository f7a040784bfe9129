import java.nio.file.Files;
import java.nio.file.Path;
import java.util.BitSet;
import java.util.LinkedHashMap;
import java.util.List;
import java.util.Map;
import java.util.regex.Matcher;
import java.util.regex.Pattern;
import java.util.stream.Collectors;
import java.util.stream.Stream;

/**
 * Every sentence of the document has a test: what the tests quote by Due.sentence stands in the document, and together
 * the quotes cover its words. (The face is looked at by LanguageTest; what is not promised has no test.) Run from the
 * project's root.
 */
public final class QuotesTest {
    private static final Path DOCUMENT = Path.of("../shared/DOC.md");
    private static final Path TESTS = Path.of("src/test/java");
    private static final List<String> WITHOUT_QUOTES = List.of("The public face", "Terms", "Not promised");
    private static final Pattern QUOTE = Pattern.compile(
            "Due\\.sentence\\(\\s*\"([^\"]+)\",\\s*((?:\"(?:[^\"\\\\]|\\\\.)*\"[\\s+]*)+)\\)");
    private static final Pattern LITERAL = Pattern.compile("\"((?:[^\"\\\\]|\\\\.)*)\"");

    /** The words of each section of the document, and which of their characters are quoted. */
    private static final Map<String, StringBuilder> WORDS = new LinkedHashMap<>();
    private static final Map<String, BitSet> QUOTED = new LinkedHashMap<>();

    private static int quotes;
    private static int wrong;

    public static void main(String[] args) throws Exception {
        if (!Files.exists(DOCUMENT)) {
            System.out.println("there is no document here to compare with");
            return;
        }
        readDocument();
        try (Stream<Path> files = Files.list(TESTS)) {
            for (Path file : files.filter(f -> f.toString().endsWith(".java")).sorted().collect(Collectors.toList())) {
                readQuotes(file);
            }
        }
        WORDS.keySet().forEach(QuotesTest::showWhatIsNotQuoted);
        System.out.println(quotes + " quotes, " + WORDS.size() + " sections, " + wrong + " not as due");
        if (wrong != 0 || quotes < 100 || WORDS.size() < 33) {
            System.exit(1);
        }
    }

    private static void miss(String line) {
        wrong++;
        System.out.println(line);
    }

    /** The sections are those with a heading of their own, and the terms, whose names stand alone in capitals. */
    private static void readDocument() throws Exception {
        String section = "";
        for (String line : Files.readAllLines(DOCUMENT)) {
            if (line.startsWith("## ")) {
                section = line.substring(3).replaceAll("^(Promise \\d+):.*", "$1");
            } else if (line.matches("[A-Z]+")) {
                section = line;
            } else if (!line.isBlank() && !section.isEmpty() && !WITHOUT_QUOTES.contains(section)) {
                WORDS.computeIfAbsent(section, s -> new StringBuilder()).append(wordsOf(line)).append(' ');
                QUOTED.putIfAbsent(section, new BitSet());
            }
        }
    }

    /** A line without the marks of lists and of code, and without the call that a promise is about. */
    private static String wordsOf(String line) {
        return line.replaceAll("^`(int \\w+|RuleDepths)\\([^)]*\\)`: ", "").replaceAll("^(- |\\d\\. )", "")
                .replace("`", "");
    }

    private static void readQuotes(Path file) throws Exception {
        Matcher found = QUOTE.matcher(Files.readString(file));
        while (found.find()) {
            StringBuilder quote = new StringBuilder();
            Matcher literal = LITERAL.matcher(found.group(2));
            while (literal.find()) {
                quote.append(literal.group(1).replace("\\\"", "\""));
            }
            quotes++;
            for (String part : quote.toString().split("\\s*\\.\\.(?!\\.)\\s*")) {
                mark(file, found.group(1), part);
            }
        }
    }

    private static void mark(Path file, String section, String part) {
        String words = WORDS.containsKey(section) ? WORDS.get(section).toString() : "";
        int place = part.isEmpty() ? -1 : words.indexOf(part);
        if (place < 0 && !part.isEmpty()) {
            miss(file + " quotes what does not stand in " + section + ": " + part);
        }
        for (; place >= 0; place = words.indexOf(part, place + 1)) {
            QUOTED.get(section).set(place, place + part.length());
        }
    }

    private static void showWhatIsNotQuoted(String section) {
        String words = WORDS.get(section).toString();
        BitSet quoted = QUOTED.get(section);
        for (int from = quoted.nextClearBit(0); from < words.length(); ) {
            int next = quoted.nextSetBit(from);
            String rest = words.substring(from, next < 0 ? words.length() : next);
            if (rest.matches(".*\\w.*")) {
                miss("no test quotes, of " + section + ": " + rest.trim());
            }
            from = next < 0 ? words.length() : quoted.nextClearBit(next);
        }
    }
}
