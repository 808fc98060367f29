import java.io.IOException;
import java.nio.file.Files;
import java.nio.file.Path;
import java.util.ArrayList;
import java.util.List;
import java.util.regex.Matcher;
import java.util.regex.Pattern;
import java.util.stream.Stream;

/**
 * The tests name the sentences of the document that they are about, by due.about(..): each of these stands there word by
 * word, and no sentence that binds is left without a test.
 */
public final class AllSentences {
    private static final Pattern ABOUT = Pattern.compile("due\\.about\\(\\s*\"((?:[^\"\\\\]|\\\\.)*)\"\\s*\\)");
    /** What no test can be about: headings, the face, what only says what the rest is, and what is free. */
    private static final String[] UNBOUND = {
        "(?s)^# WhoBacks.*?an image\\.", "(?s)```java.*?```", "(?s)## Not promised.*$", "(?m)^```\\w*$", "(?m)^#+ .*$", "={8} \\d THE ROAD:", "={8} [234]",
        "(?m)^Ahead of the calls .* the interface says: ---- .*\\.$", "Said once more:", "In doubt\\." };
    private static int wrong;

    public static void main(String[] args) throws IOException {
        String document = Files.readString(Path.of("../shared/DOC.md"));
        String whole = flat(document);
        for (String pattern : UNBOUND) document = document.replaceAll(pattern, " \u0001 ");
        String text = flat(document);
        boolean[] covered = new boolean[text.length()];
        int quotes = 0;
        for (String quote : quotes()) {
            quotes++;
            if (!whole.contains(flat(quote))) fault("not in the document: " + quote);
            for (int at = text.indexOf(flat(quote)); at >= 0; at = text.indexOf(flat(quote), at + 1)) {
                for (int i = at; i < at + flat(quote).length(); i++) covered[i] = true;
            }
        }
        uncovered(text, covered);
        System.out.println("AllSentences: " + quotes + " sentences with tests, " + wrong + " faults");
        if (wrong != 0) System.exit(1);
    }

    private static void fault(String what) {
        wrong++;
        System.out.println(what);
    }

    private static String flat(String s) { return s.replaceAll("\\s+", " ").trim(); }

    private static List<String> quotes() throws IOException {
        List<String> all = new ArrayList<>();
        List<Path> tests;
        try (Stream<Path> files = Files.list(Path.of("src/test/java"))) {
            tests = files.filter(p -> p.toString().endsWith(".java")).sorted().toList();
        }
        for (Path test : tests) {
            Matcher m = ABOUT.matcher(Files.readString(test));
            while (m.find()) all.add(m.group(1).replace("\\\"", "\""));
        }
        return all;
    }

    private static void uncovered(String text, boolean[] covered) {
        for (int from = 0; from < text.length(); from++) {
            if (covered[from]) continue;
            int to = from;
            while (to < text.length() && !covered[to]) to++;
            String rest = text.substring(from, to);
            if (rest.matches("(?s).*[A-Za-z0-9].*")) fault("no test is about: " + rest);
            from = to;
        }
    }
}
