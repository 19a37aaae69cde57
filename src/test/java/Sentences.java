import java.io.IOException;
import java.nio.charset.StandardCharsets;
import java.nio.file.Files;
import java.nio.file.Path;
import java.util.ArrayList;
import java.util.Comparator;
import java.util.HashSet;
import java.util.List;
import java.util.Set;
import java.util.TreeMap;

/**
 * The sentences of the document that have a test, by promise (0 for what stands ahead of the promises),
 * and those that name no edge. Together they have to be the whole document, word by word.
 */
final class Sentences {
    private static final TreeMap<Integer, List<String>> QUOTED = new TreeMap<>();

    private Sentences() {
    }

    /** The checks that follow are those of this sentence. */
    static void of(int promise, String sentence) {
        quote(promise, sentence);
        Check.about(promise == 0 ? sentence : "Promise " + promise + ": " + sentence);
    }

    static void nameNoEdge(int promise, String... sentences) {
        for (String sentence : sentences) {
            quote(promise, sentence);
        }
    }

    private static void quote(int promise, String sentence) {
        QUOTED.computeIfAbsent(promise, key -> new ArrayList<>()).add(sentence);
    }

    static void dueWhole(Path document) throws IOException {
        Check.about("the document, sentence by sentence");
        Set<Integer> seen = new HashSet<>();
        for (String section : Files.readString(document, StandardCharsets.UTF_8).split("\n## ")) {
            String heading = section.substring(0, section.indexOf('\n')).trim();
            String body = section.substring(section.indexOf('\n'));
            if (heading.startsWith("Promise ")) {
                int promise = Integer.parseInt(heading.substring("Promise ".length(), heading.indexOf(':')));
                seen.add(promise);
                dueQuoted(promise, body.replaceFirst("`[^`]*\\([^`]*\\)`:", " "));
            } else if (heading.equals("Terms")) {
                dueQuoted(0, body + " An object is used for at most 512 calls after it has been made;"
                        + " what later calls answer is free.");
            } else if (heading.equals("What it is")) {
                Check.due("the sentence of the 512 calls", oneLine(body).contains("for at most 512 calls") ? 1 : 0, 1);
            }
        }
        Check.due("the promises of the document", seen.size(), 41);
    }

    private static String oneLine(String text) {
        return text.replaceAll("\\s+", " ").trim();
    }

    /** Takes the sentences out of a section, the longest first, and looks at what stays. */
    private static void dueQuoted(int promise, String body) {
        String rest = oneLine(body);
        List<String> sentences = new ArrayList<>(QUOTED.getOrDefault(promise, List.of()));
        sentences.sort(Comparator.comparingInt(String::length).reversed());
        for (String sentence : sentences) {
            int start = rest.indexOf(sentence);
            if (start < 0) {
                Check.fail("the document has not, under " + promise + ": " + sentence);
            } else {
                rest = rest.substring(0, start) + "|" + rest.substring(start + sentence.length());
            }
        }
        Check.dueText("untested under " + promise, rest.replaceAll("[-|;,. ]", ""), "");
    }
}
