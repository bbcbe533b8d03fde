import java.io.IOException;
import java.lang.reflect.Field;
import java.lang.reflect.Method;
import java.lang.reflect.Modifier;
import java.nio.file.Files;
import java.nio.file.Path;
import java.util.ArrayList;
import java.util.List;
import java.util.Map;
import java.util.Set;
import java.util.TreeMap;
import java.util.TreeSet;
import java.util.stream.Stream;

/** Each example of README.md answers as the page says, and the page tells all calls, errors, sections and tests. */
public final class ReadmeTest {
    private static final Path PAGE = Path.of("README.md");
    private static final Path SHARED = Path.of("../shared");
    private static final Path DOCUMENT = SHARED.resolve("DOC.md");
    private static final Path SOURCES = Path.of("src");
    private static final Path TESTS = SOURCES.resolve("test/java");
    private static final String ALL_TESTS = ".ci/run";
    private static final int PROMISES = 29;
    /** How many numbers the last argument may be, from 0. */
    private static final Map<String, Integer> KINDS_OF_ANSWERS = Map.of(
        "fault", 2, "why", 2, "trader", 10, "most", 2, "kind", 6, "count", 16, "ifDays", 3);

    private static final Checks CHECKS = new Checks("ReadmeTest");

    private static Readme page;

    public static void main(String[] args) throws Exception {
        page = new Readme(PAGE);
        callsAreTold();
        errorsAreTold();
        documentIsTold();
        filesAreThere();
        formsOfExamples();
        examplesShowAll();
        try (ReadmeExamples run = new ReadmeExamples(SOURCES, SHARED)) {
            fragments(run);
            programsAndCommands(run);
        }
        CHECKS.end();
    }

    private static List<Readme.Example> allExamples() {
        List<Readme.Example> examples = new ArrayList<>();
        for (Readme.Block block : page.blocks) {
            if (block.isFragment()) {
                examples.addAll(Readme.examplesOf(block));
            }
        }
        return examples;
    }

    // ---- what the page tells

    private static void callsAreTold() {
        CHECKS.begin("the calls");
        Map<String, Integer> face = new TreeMap<>();
        for (Method method : BarterRings.class.getDeclaredMethods()) {
            if (Modifier.isPublic(method.getModifiers())) {
                face.put(method.getName(), method.getParameterCount());
            }
        }
        Map<String, Integer> told = new TreeMap<>();
        for (Readme.Call call : page.calls) {
            CHECKS.tell(told.put(call.name(), call.arguments()) == null, call.name() + " is told twice");
        }
        CHECKS.tell(told.equals(face), "told are " + told + ", there are " + face);
        CHECKS.tell(page.words().contains("`new BarterRings()`"), "it is not told how an object is made");
    }

    private static Map<String, Integer> constants() throws IllegalAccessException {
        Map<String, Integer> constants = new TreeMap<>();
        for (Field field : BarterRings.class.getDeclaredFields()) {
            if (Modifier.isPublic(field.getModifiers())) {
                constants.put(field.getName(), field.getInt(null));
            }
        }
        return constants;
    }

    private static void errorsAreTold() throws IllegalAccessException {
        CHECKS.begin("the errors");
        Map<String, Integer> told = new TreeMap<>();
        for (List<String> row : page.rows) {
            if (row.size() == 3 && row.get(0).matches("`[A-Z_]+`")) {
                told.put(row.get(0).replace("`", ""), Integer.valueOf(row.get(1)));
            }
        }
        CHECKS.tell(told.equals(constants()), "told are " + told + ", there are " + constants());
        for (Readme.Call call : page.calls) {
            List<String> errors = Readme.found("`([A-Z_]+)`", call.errors());
            CHECKS.tell(errors.isEmpty() == call.errors().equals("none"), "the errors of " + call.name());
            CHECKS.tell(constants().keySet().containsAll(errors), "unknown errors of " + call.name() + ": " + errors);
        }
    }

    private static void documentIsTold() throws IOException {
        CHECKS.begin("the document");
        List<String> headings = Readme.found("(?m)^##+ (.*)$", Files.readString(DOCUMENT));
        Set<String> promises = new TreeSet<>();
        for (Readme.Call call : page.calls) {
            CHECKS.tell(headings.contains(call.promise() + ": " + call.name()), call.name() + " is no " + call.promise());
            promises.add(call.promise());
        }
        promises.add("Promise 1");
        CHECKS.tell(page.words().contains("(\"Promise 1\")"), "the Promise 1 is not told");
        CHECKS.tell(promises.size() == PROMISES, "not all promises are told: " + promises);
        for (List<String> row : page.rows) {
            if (row.get(0).equals("`" + DOCUMENT + "`")) {
                List<String> sections = Readme.found("\"([^\"]+)\"", row.get(1));
                CHECKS.tell(sections.size() > 2, "no sections are told");
                for (String section : sections) {
                    boolean stands = headings.stream().anyMatch(
                        heading -> heading.equals(section) || heading.startsWith(section + ":"));
                    CHECKS.tell(stands, "the document has no section " + section);
                }
            }
        }
    }

    private static void filesAreThere() throws IOException {
        CHECKS.begin("the files");
        for (String file : Readme.found("`([\\w./]*(?:/[\\w./]+|\\.md))`", page.words())) {
            CHECKS.tell(Files.exists(Path.of(file)), "there is no " + file);
        }
        CHECKS.tell(Files.isExecutable(Path.of(ALL_TESTS)), ALL_TESTS + " cannot be run");
        Set<String> there = new TreeSet<>();
        try (Stream<Path> tests = Files.list(TESTS)) {
            tests.forEach(test -> there.add(test.getFileName().toString().replace(".java", "")));
        }
        String aboutTests = page.words().substring(page.words().indexOf("The tests of `src/test/java`:"));
        Set<String> told = new TreeSet<>(Readme.found("`([A-Z]\\w+)`", aboutTests));
        CHECKS.tell(told.equals(there), "told are the tests " + told + ", there are " + there);
    }

    // ---- what the examples show

    /** No line may say what a call answers in a form that is not run. */
    private static void formsOfExamples() throws IllegalAccessException {
        CHECKS.begin("the forms of the examples");
        for (Readme.Block block : page.blocks) {
            CHECKS.tell(Set.of("java", "sh", "text").contains(block.language()), "a block of no kind at " + block.line());
            for (String line : block.isFragment() ? block.lines() : List.<String>of()) {
                boolean answers = line.startsWith("market.") || line.contains("//");
                CHECKS.tell(!answers || Readme.Example.of(0, line) != null, "no answer that can be checked: " + line);
            }
        }
        for (Readme.Example example : allExamples()) {
            double named = example.error().isEmpty() ? 0 : constants().getOrDefault(example.error(), 0);
            CHECKS.due("line " + example.line() + ", the value of the error", Math.min(example.answer(), 0), named);
        }
    }

    private static void examplesShowAll() {
        CHECKS.begin("what the examples show");
        Map<String, Set<String>> shown = new TreeMap<>();
        Map<String, Set<String>> kinds = new TreeMap<>();
        for (Readme.Example example : allExamples()) {
            shown.computeIfAbsent(example.name(), name -> new TreeSet<>()).add(example.error());
            if (KINDS_OF_ANSWERS.containsKey(example.name()) && !example.error().equals("INVALID_ARGUMENT")) {
                String last = example.arguments().get(example.arguments().size() - 1);
                kinds.computeIfAbsent(example.name(), name -> new TreeSet<>()).add(last);
            }
        }
        for (Readme.Call call : page.calls) {
            Set<String> due = new TreeSet<>(Readme.found("`([A-Z_]+)`", call.errors()));
            due.add("");
            CHECKS.tell(due.equals(shown.get(call.name())), call.name() + " shows the errors " + shown.get(call.name()));
        }
        for (Map.Entry<String, Integer> one : KINDS_OF_ANSWERS.entrySet()) {
            for (int what = 0; what < one.getValue(); what++) {
                boolean isShown = kinds.getOrDefault(one.getKey(), Set.of()).contains("" + what);
                CHECKS.tell(isShown, one.getKey() + " does not show " + what);
            }
        }
    }

    // ---- the examples are run

    private static void fragments(ReadmeExamples run) throws IOException, ReflectiveOperationException {
        CHECKS.begin("the examples");
        for (Readme.Block block : page.blocks) {
            if (block.isFragment()) {
                List<Readme.Example> examples = Readme.examplesOf(block);
                List<Double> answers = run.answersOf(block);
                CHECKS.due("the examples at line " + block.line() + ", how many", answers.size(), examples.size());
                for (int at = 0; at < examples.size() && at < answers.size(); at++) {
                    Readme.Example example = examples.get(at);
                    CHECKS.due("line " + example.line() + ", " + example.call(), answers.get(at), example.answer());
                }
            }
        }
    }

    /** What commands print stands in the block behind them, if the page tells it. */
    private static void programsAndCommands(ReadmeExamples run) throws IOException, InterruptedException {
        CHECKS.begin("the programs and the commands");
        for (int at = 0; at < page.blocks.size(); at++) {
            Readme.Block block = page.blocks.get(at);
            if (block.isProgram()) {
                run.put(block);
            } else if (block.language().equals("sh") && !block.lines().equals(List.of(ALL_TESTS))) {
                Readme.Block next = at + 1 < page.blocks.size() ? page.blocks.get(at + 1) : block;
                String printed = run.printedBy(block);
                String due = (next.language().equals("text") ? next.text() : "") + "ended with 0\n";
                boolean asTold = next.language().equals("text") ? printed.equals(due) : printed.endsWith(due);
                CHECKS.tell(asTold, "the commands at line " + block.line() + " printed " + printed);
            } else if (block.language().equals("text")) {
                boolean behind = at > 0 && page.blocks.get(at - 1).language().equals("sh");
                CHECKS.tell(behind, "nothing prints the text at line " + block.line());
            }
        }
    }
}
