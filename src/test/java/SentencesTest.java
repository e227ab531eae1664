import java.io.IOException;
import java.nio.file.Files;
import java.nio.file.Path;
import java.util.Arrays;
import java.util.List;
import java.util.Set;
import java.util.TreeSet;
import java.util.regex.Matcher;
import java.util.regex.Pattern;
import java.util.stream.Collectors;
import java.util.stream.Stream;

/**
 * The sentences that the boundary tests name stand in the document, and no words of what it is (promise 0 here), of
 * the terms and of the promises are left over.
 */
public final class SentencesTest {
    private static final Support CHECK = new Support("SentencesTest");
    private static final String DOCUMENT = "../shared/DOC.md";
    private static final String SOURCES = "src/test/java";
    private static final Pattern CALL = Pattern.compile(
            "CHECK\\.sentence\\((\\d+),((?:\\s*\\+?\\s*\"(?:[^\"\\\\]|\\\\.)*\")+)\\);");
    // Words that only say what comes next.
    private static final Set<String> HEADS = Set.of("Rules of use as machines:", "RULES.", "CODE.");

    public static void main(String[] args) throws IOException {
        String document = Files.readString(Path.of(DOCUMENT));
        String terms = plain(between(document, "## Terms", "Ahead of the calls `feed`"));
        boolean[] termsTold = new boolean[terms.length()];
        Set<Integer> promises = new TreeSet<>();
        String[] texts = new String[23];
        boolean[][] told = new boolean[23][];
        for (int promise = 0; promise <= 22; promise++) {
            texts[promise] = promise == 0 ? plain(between(document, "## What it is", "\n## "))
                    : promise(document, promise);
            told[promise] = new boolean[texts[promise].length()];
        }
        for (String source : sources()) {
            Matcher calls = CALL.matcher(source);
            while (calls.find()) {
                int promise = Integer.parseInt(calls.group(1));
                String words = words(calls.group(2));
                promises.add(promise);
                boolean found = mark(texts[promise], told[promise], words) | mark(terms, termsTold, words)
                        | mark(texts[0], told[0], words);
                CHECK.is("in the document, for promise " + promise + ": " + words,
                        found || plain(document).contains(words));
            }
            CHECK.due("sentences that this test reads", count(source, "CHECK.sentence("), count(CALL.matcher(source)));
        }
        CHECK.due("promises with sentences, and what it is", promises.size(), 23);
        noneLeft("terms", terms, termsTold);
        for (int promise = 0; promise <= 22; promise++) {
            noneLeft("promise " + promise, texts[promise], told[promise]);
        }
        CHECK.finish();
    }

    private static List<String> sources() throws IOException {
        try (Stream<Path> all = Files.list(Path.of(SOURCES))) {
            List<Path> paths = all.filter(p -> p.getFileName().toString().matches("Boundary\\w+Test\\.java")).sorted()
                    .collect(Collectors.toList());
            CHECK.is("boundary tests", paths.size() > 1);
            String[] texts = new String[paths.size()];
            for (int i = 0; i < texts.length; i++) {
                texts[i] = Files.readString(paths.get(i));
            }
            return Arrays.asList(texts);
        }
    }

    private static int count(String text, String what) {
        return text.split(Pattern.quote(what), -1).length - 1;
    }

    private static int count(Matcher all) {
        int found = 0;
        while (all.find()) {
            found++;
        }
        return found;
    }

    private static String between(String text, String from, String to) {
        int begin = text.indexOf(from);
        int end = text.indexOf(to, begin + from.length());
        CHECK.is("in the document: " + from + " and " + to, begin >= 0 && end > begin);
        return text.substring(begin + from.length(), end);
    }

    /** What a promise says, without the call that it is about. */
    private static String promise(String document, int number) {
        String body = between(document, "## Promise " + number + ":", "\n## ");
        return plain(body.substring(body.indexOf("`: ") + 3));
    }

    private static String plain(String text) {
        return text.replaceAll("```\\w*", " ").replaceAll("={4,} \\d", " ").replaceAll("\\s+", " ").trim();
    }

    /** The words of joined Java texts. */
    private static String words(String joined) {
        StringBuilder all = new StringBuilder();
        Matcher parts = Pattern.compile("\"((?:[^\"\\\\]|\\\\.)*)\"").matcher(joined);
        while (parts.find()) {
            all.append(parts.group(1));
        }
        return all.toString().trim();
    }

    private static boolean mark(String text, boolean[] told, String words) {
        boolean found = false;
        for (int at = text.indexOf(words); at >= 0; at = text.indexOf(words, at + 1)) {
            Arrays.fill(told, at, at + words.length(), true);
            found = true;
        }
        return found;
    }

    private static void noneLeft(String where, String text, boolean[] told) {
        StringBuilder left = new StringBuilder();
        for (int i = 0; i < text.length(); i++) {
            left.append(told[i] ? '\n' : text.charAt(i));
        }
        for (String words : left.toString().split("\n+")) {
            boolean some = !words.isBlank() && !HEADS.contains(words.trim());
            CHECK.is("a test for these words of the " + where + ": " + words, !some);
        }
    }
}
