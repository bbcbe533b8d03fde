import java.io.IOException;
import java.nio.file.Files;
import java.nio.file.Path;
import java.util.ArrayList;
import java.util.List;
import java.util.regex.Matcher;
import java.util.regex.Pattern;

/** README.md in parts: its blocks of code, the rows of its tables, and its words. */
final class Readme {
    private static final String FENCE = "```";

    /** What stands between two fences. */
    record Block(int line, String language, List<String> lines) {
        String text() {
            return String.join("\n", lines) + "\n";
        }

        boolean isProgram() {
            return language.equals("java") && text().contains("public static void main");
        }

        boolean isFragment() {
            return language.equals("java") && !isProgram();
        }
    }

    /** A line of a fragment: a call, and what the page says that it answers. */
    record Example(int line, String call, String name, List<String> arguments, double answer, String error) {
        private static final Pattern FORM = Pattern.compile(
            "(market\\.(\\w+)\\((.*)\\));\\s+// (-?\\d+(?:\\.\\d+)?)(?:, ([A-Z_]+))?: \\S.*");

        /** Null, if the line is no such one. */
        static Example of(int line, String text) {
            Matcher match = FORM.matcher(text);
            if (!match.matches()) {
                return null;
            }
            List<String> arguments = match.group(3).isEmpty() ? List.of() : List.of(match.group(3).split(", "));
            String error = match.group(5) == null ? "" : match.group(5);
            double answer = Double.parseDouble(match.group(4));
            return new Example(line, match.group(1), match.group(2), arguments, answer, error);
        }
    }

    /** A row of a table of calls. */
    record Call(String name, int arguments, String errors, String promise) {
        private static final Pattern FORM = Pattern.compile("`(\\w+)\\(([^)]*)\\)`");

        /** Null, if the row tells no call. */
        static Call of(List<String> cells) {
            Matcher match = FORM.matcher(cells.get(0));
            if (!match.matches() || cells.size() != 5) {
                return null;
            }
            int arguments = match.group(2).isEmpty() ? 0 : match.group(2).split(", ").length;
            return new Call(match.group(1), arguments, cells.get(3), cells.get(4));
        }
    }

    final String text;
    final List<Block> blocks = new ArrayList<>();
    final List<List<String>> rows = new ArrayList<>();
    final List<Call> calls = new ArrayList<>();
    private final StringBuilder words = new StringBuilder();

    Readme(Path file) throws IOException {
        text = Files.readString(file);
        String[] lines = text.split("\n");
        Block open = null;
        for (int at = 0; at < lines.length; at++) {
            if (open != null && lines[at].equals(FENCE)) {
                open = null;
            } else if (open != null) {
                open.lines().add(lines[at]);
            } else if (lines[at].startsWith(FENCE)) {
                open = new Block(at + 1, lines[at].substring(FENCE.length()), new ArrayList<>());
                blocks.add(open);
            } else {
                readWords(lines[at]);
            }
        }
    }

    private void readWords(String line) {
        words.append(line).append('\n');
        if (!line.startsWith("| ")) {
            return;
        }
        List<String> cells = new ArrayList<>();
        for (String cell : line.substring(1, line.lastIndexOf('|')).split("\\|", -1)) {
            cells.add(cell.strip());
        }
        rows.add(cells);
        Call call = Call.of(cells);
        if (call != null) {
            calls.add(call);
        }
    }

    /** What the page says outside of its blocks. */
    String words() {
        return words.toString();
    }

    static List<Example> examplesOf(Block fragment) {
        List<Example> examples = new ArrayList<>();
        for (int at = 0; at < fragment.lines().size(); at++) {
            Example example = Example.of(fragment.line() + at + 1, fragment.lines().get(at));
            if (example != null) {
                examples.add(example);
            }
        }
        return examples;
    }

    /** What the pattern's first group finds in a text. */
    static List<String> found(String pattern, String text) {
        List<String> all = new ArrayList<>();
        Matcher match = Pattern.compile(pattern).matcher(text);
        while (match.find()) {
            all.add(match.group(1));
        }
        return all;
    }
}
