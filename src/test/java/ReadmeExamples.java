import java.util.ArrayList;
import java.util.List;
import java.util.regex.Matcher;
import java.util.regex.Pattern;

/** The examples of README.md as one class that can be compiled, and tells what they answer. */
final class ReadmeExamples {
    static final String NAME = "ShownExamples";

    /** A call, what it answers, and why, if that is told. */
    private static final Pattern ANSWERED = Pattern.compile("^(\\w[^;]*|write\\(.*\\));\\s*// ([^:]+?)(?:: .*)?$");
    private static final Pattern MADE = Pattern.compile("^PianoCovers \\w+ = new PianoCovers\\(\\);$");
    private static final Pattern ORDER = Pattern.compile("^\\| `([pkcrt][^`(]*)` \\| `([^`]+)` \\|$");
    private static final Pattern CONSTANT = Pattern.compile("\\b[A-Z][A-Z_]+\\b");

    private final List<String> lines;
    private final List<String> unanswered = new ArrayList<>();
    private final StringBuilder members = new StringBuilder();
    private final StringBuilder answers = new StringBuilder();
    private final StringBuilder twins = new StringBuilder();
    private int answered = 0;
    private int orders = 0;

    ReadmeExamples(List<String> lines) {
        this.lines = lines;
        String kind = "";
        for (int at = 0; at < lines.size(); at++) {
            String line = lines.get(at);
            if (line.startsWith("```")) {
                kind = line.substring(3);
                if (kind.equals("java")) {
                    addExample(at + 1);
                }
            } else if (kind.isEmpty()) {
                addOrder(line);
            }
        }
    }

    int answered() {
        return answered;
    }

    int orders() {
        return orders;
    }

    List<String> unanswered() {
        return unanswered;
    }

    String line(int at) {
        return "README.md, line " + (at + 1) + ": " + lines.get(at);
    }

    /** The lines of all blocks of one kind. */
    static List<String> linesOf(String kind, List<String> lines) {
        List<String> found = new ArrayList<>();
        boolean within = false;
        for (String line : lines) {
            if (line.startsWith("```")) {
                within = line.equals("```" + kind);
            } else if (within) {
                found.add(line);
            }
        }
        return found;
    }

    /** A block that begins with a method is shown to be copied; any other is a run of calls. */
    private void addExample(int from) {
        int end = from;
        while (end < lines.size() && !lines.get(end).startsWith("```")) {
            end++;
        }
        if (from < end && lines.get(from).startsWith("static ")) {
            members.append(String.join("\n", lines.subList(from, end))).append("\n");
            return;
        }
        answers.append("{\n");
        for (int at = from; at < end; at++) {
            addCall(at);
        }
        answers.append("}\n");
    }

    private void addCall(int at) {
        String line = lines.get(at);
        Matcher call = ANSWERED.matcher(line);
        if (MADE.matcher(line).matches()) {
            answers.append(line).append("\n");
        } else if (call.matches()) {
            String due = CONSTANT.matcher(call.group(2)).replaceAll("PianoCovers.$0");
            answers.append("all.add(new long[] {").append(at).append(", ").append(call.group(1)).append(", ")
                .append(due).append("});\n");
            answered++;
        } else {
            unanswered.add(line(at));
        }
    }

    /** An order is carried out on one of two objects that are alike, its call made on the other one. */
    private void addOrder(String line) {
        Matcher row = ORDER.matcher(line);
        if (row.matches()) {
            String call = row.group(2).replace("\\|", "|");
            twins.append("{\nPianoCovers a = alike();\nPianoCovers b = alike();\nwrite(a, \"").append(row.group(1))
                .append("\");\na.carryOut();\nb.").append(call).append(";\n")
                .append("all.add(new PianoCovers[] {a, b, alike()});\n}\n");
            orders++;
        }
    }

    String source() {
        return "import java.util.ArrayList;\nimport java.util.List;\n"
            + "public final class " + NAME + " {\n" + members
            + "public static long[][] answers() {\nList<long[]> all = new ArrayList<>();\n" + answers
            + "return all.toArray(new long[0][]);\n}\n"
            + "private static PianoCovers alike() {\nPianoCovers x = new PianoCovers();\nx.piano(5, 0);\nx.rain(2);\n"
            + "return x;\n}\n"
            + "public static PianoCovers[][] twins() {\nList<PianoCovers[]> all = new ArrayList<>();\n" + twins
            + "return all.toArray(new PianoCovers[0][]);\n}\n}\n";
    }
}
