import java.io.IOException;
import java.nio.file.Files;
import java.nio.file.Path;
import java.util.ArrayList;
import java.util.Arrays;
import java.util.List;
import java.util.regex.Matcher;
import java.util.regex.Pattern;
import java.util.stream.Stream;

/** Each clause of the document's terms and promises that names a bound is named by a test of the edges. */
public final class SentencesTest {
    private static final Due due = new Due();
    private static final Pattern NAMED = Pattern.compile("says\\(\"((?:[^\"\\\\]|\\\\.)*)\"\\)");
    private static final Pattern BOUND = Pattern.compile(
        "\\d|\\b(most|least|cut|far|up|more|none|above|below|latest|last|both|else|empty|beyond|less|fewest|greater|greatest"
        + "|nearest|NONE|alone|ahead|later|long|once|half|twice|nothing)\\b", Pattern.CASE_INSENSITIVE);

    public static void main(String[] args) throws IOException {
        String document = Due.document();
        boolean[] named = new boolean[document.length()];
        for (String words : sentences()) {
            int at = document.indexOf(words);
            due.yes("stands in the document: " + words, at >= 0);
            for (int next = at; next >= 0; next = document.indexOf(words, next + 1)) {
                Arrays.fill(named, next, next + words.length(), true);
            }
        }
        int terms = document.indexOf("CORNERS, up to 12");
        int promises = document.indexOf("## Promise 1:");
        int end = document.indexOf("## Not promised");
        due.yes("the document's parts", terms > 0 && promises > terms && end > promises);
        clauses(document, named, terms, promises, "[.;:,)] ");
        clauses(document, named, promises, end, "## Promise |[.;] ");
        due.end();
    }

    private static List<String> sentences() throws IOException {
        List<String> sentences = new ArrayList<>();
        try (Stream<Path> files = Files.list(Path.of("src/test/java"))) {
            for (Path file : files.filter(f -> f.getFileName().toString().startsWith("EdgesOf")).sorted().toList()) {
                Matcher m = NAMED.matcher(Files.readString(file));
                while (m.find()) {
                    sentences.add(m.group(1).replace("\\\"", "\""));
                }
            }
        }
        return sentences;
    }

    /** Each clause (up to what ends one) with a bound in it has a part that a test names. */
    private static void clauses(String document, boolean[] named, int from, int to, String ends) {
        Matcher end = Pattern.compile(ends).matcher(document).region(from, to);
        int start = from;
        while (start < to) {
            int stop = end.find() ? end.end() : to;
            String clause = document.substring(start, stop).trim();
            boolean isNamed = false;
            for (int i = start; i < stop; i++) {
                isNamed |= named[i];
            }
            if (BOUND.matcher(clause).find() && !clause.contains("====")) {
                due.yes("named by a test: " + clause, isNamed);
            }
            start = stop;
        }
    }
}
