import java.io.IOException;
import java.nio.charset.StandardCharsets;
import java.nio.file.Files;
import java.nio.file.Path;
import java.util.ArrayList;
import java.util.LinkedHashMap;
import java.util.List;
import java.util.Map;
import java.util.regex.Pattern;

/** The sentences of the document, each told in its own words, and the test of its own that holds it. */
final class Sentence {
    private static final Map<String, String> SECTIONS = new LinkedHashMap<>();
    /** From and to in a section's text, of all words that a test holds. */
    private static final Map<String, List<int[]>> HELD = new LinkedHashMap<>();

    private static final Pattern CLAUSE = Pattern.compile("[^.;]+");
    /** What is left between the points of a list, or of a grammar, is no clause. */
    private static final Pattern WORD = Pattern.compile("[A-Za-z]{2}");

    private Sentence() { }

    static void read(Path document) throws IOException {
        String section = "";
        for (String line : Files.readString(document, StandardCharsets.UTF_8).split("\n")) {
            if (line.startsWith("#")) {
                section = line.replaceFirst("^#+ *", "").replaceFirst(":.*", "");
            } else {
                String plain = line.replace("`", "").trim();
                SECTIONS.merge(section, plain, (old, more) -> (old + " " + more).replaceAll(" +", " "));
            }
        }
    }

    /** Runs the test of a sentence; the words have to stand in the section, and the test has to look at something. */
    static void holds(String section, String words, Runnable test) {
        Due.about(section + ", \"" + words + "\": ");
        int from = SECTIONS.getOrDefault(section, "").indexOf(words);
        Due.due("that the words stand in the document", from < 0 ? 0 : 1, 1);
        HELD.computeIfAbsent(section, none -> new ArrayList<>()).add(new int[] {from, from + words.length()});
        int looks = Due.looks();
        test.run();
        Due.due("that the test looks at an answer", Due.looks() > looks ? 1 : 0, 1);
        Due.about("");
    }

    /** Looks for clauses of the terms and the promises that have no test. */
    static void lookForThoseWithoutTest() {
        for (Map.Entry<String, String> section : SECTIONS.entrySet()) {
            if (section.getKey().matches("Terms|Settings|Street|An hour|Texts|Promise \\d+")) {
                lookForThoseWithoutTest(section.getKey(), section.getValue());
            }
        }
    }

    private static void lookForThoseWithoutTest(String section, String text) {
        CLAUSE.matcher(text).results().forEach(clause -> {
            if (WORD.matcher(clause.group()).find()) {
                boolean held = HELD.getOrDefault(section, List.of()).stream()
                    .anyMatch(range -> range[0] < clause.end() && range[1] > clause.start());
                Due.due(section + ", tests of \"" + clause.group().trim() + "\"", held ? 1 : 0, 1);
            }
        });
    }
}
