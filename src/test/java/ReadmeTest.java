import java.io.IOException;
import java.nio.file.Files;
import java.nio.file.Path;
import java.util.ArrayList;
import java.util.List;
import java.util.Map;
import java.util.Set;
import java.util.TreeMap;
import java.util.TreeSet;
import java.util.regex.Matcher;
import java.util.regex.Pattern;

/** What README.md says is so: the calls that it shows, its tables, the command that runs the tests. */
public final class ReadmeTest {
    private static final String MAKES = "LevelledInk ink = new LevelledInk();";
    private static final Pattern SHOWN = Pattern.compile(
        "(Double\\.longBitsToDouble\\(|Float\\.intBitsToFloat\\(|)ink\\.(\\w+\\([-0-9, ]*\\))(\\)?);"
        + " +// (-?[\\w.]+)(: .*)?");
    private static final Pattern FACE = Pattern.compile("public (?:int|long) (\\w+)\\((.*)\\);");
    private static final Pattern PROMISE = Pattern.compile("`(?:int|long) (\\w+)\\(.*?\\)`: (.*)");
    private static final Pattern WORD = Pattern.compile("\\b(LOST|UNKNOWN|OUTSIDE|STATE|NULL|STORE|INDEX|SIZE)\\b");
    private static final Map<String, Long> NAMED = Map.of(
        "UNKNOWN", (long) LevelledInk.UNKNOWN, "OUTSIDE", (long) LevelledInk.OUTSIDE,
        "STATE", (long) LevelledInk.STATE, "NONE", (long) LevelledInk.NONE, "LOST", LevelledInk.LOST);

    private final Path project;
    private final List<String> readme;
    private final List<String> document;

    public static void main(String[] args) throws IOException {
        // The class stands in src/main/java of the project.
        Path project = Path.of(args[0]).toAbsolutePath().resolve("../../../..").normalize();
        ReadmeTest test = new ReadmeTest(project, Path.of(args[1]));
        test.shownCalls();
        test.constants();
        test.faults();
        test.callsOfTheDocument();
        test.callsAndRefusals();
        test.commandOfTests();
        Due.end();
    }

    private ReadmeTest(Path project, Path shared) throws IOException {
        this.project = project;
        this.readme = Files.readAllLines(project.resolve("README.md"));
        this.document = Files.readAllLines(shared.resolve("DOC.md"));
    }

    private List<List<String>> blocks(String language) {
        List<List<String>> blocks = new ArrayList<>();
        boolean open = false;
        for (String line : readme) {
            if (line.equals("```" + language)) {
                open = true;
                blocks.add(new ArrayList<>());
            } else if (line.equals("```")) {
                open = false;
            } else if (open) {
                blocks.get(blocks.size() - 1).add(line);
            }
        }
        return blocks;
    }

    /** The rows of a table with so many cells whose first one is as told, without the signs of code. */
    private List<String[]> rows(int cells, String first) {
        List<String[]> rows = new ArrayList<>();
        for (String line : readme) {
            if (line.startsWith("| ") && line.endsWith("|")) {
                String[] row = line.substring(2, line.length() - 1).replace("`", "").split(" *\\| *", -1);
                if (row.length == cells && row[0].matches(first)) {
                    rows.add(row);
                }
            }
        }
        return rows;
    }

    private void shownCalls() {
        List<List<String>> programs = blocks("java");
        Due.holds("README.md shows programs", programs.size() >= 3);
        for (List<String> program : programs) {
            Due.holds("a program begins with a new object", program.get(0).equals(MAKES));
            Asked asked = new Asked("README.md");
            for (String line : program.subList(1, program.size())) {
                shownCall(asked, line);
            }
        }
    }

    private void shownCall(Asked asked, String line) {
        Matcher shown = SHOWN.matcher(line);
        boolean isCall = shown.matches() && shown.group(1).isEmpty() == shown.group(3).isEmpty();
        Due.holds("README.md: a call and its answer: " + line, isCall);
        if (isCall) {
            asked.due(shown.group(2), told(shown.group(1), shown.group(4)));
        }
    }

    private static long told(String wrapped, String answer) {
        if (wrapped.startsWith("Double")) {
            return Double.doubleToRawLongBits(Double.parseDouble(answer));
        }
        if (wrapped.startsWith("Float")) {
            return Float.floatToRawIntBits(Float.parseFloat(answer));
        }
        return NAMED.containsKey(answer) ? NAMED.get(answer) : Long.parseLong(answer);
    }

    private void constants() {
        Map<String, Long> told = new TreeMap<>();
        for (String[] row : rows(3, "[A-Z]+")) {
            told.put(row[0], Long.parseLong(row[1]));
        }
        Due.holds("README.md: the constants are " + told, told.equals(NAMED));
    }

    private void faults() {
        List<String[]> rows = rows(4, "NULL|STORE|INDEX|SIZE");
        Due.due("README.md: FAULTS", rows.size(), 4);
        for (String[] row : rows) {
            Asked asked = new Asked("README.md: " + row[0]).after("blank(1, 0, 4)", "blank(2, 1, 4)");
            asked.due(callThatComesTo(row[0]), Long.parseLong(row[2])).due("fault()", Long.parseLong(row[1]));
        }
    }

    private static String callThatComesTo(String fault) {
        switch (fault) {
            case "NULL": return "put(0, 0, 1)";
            case "STORE": return "copy(1, 0, 2, 0, 1)";
            case "INDEX": return "put(1, 4, 1)";
            default: return "blank(1, 0, -1)";
        }
    }

    private void callsOfTheDocument() {
        Set<String> face = new TreeSet<>();
        for (String line : document) {
            Matcher call = FACE.matcher(line.trim());
            if (call.matches()) {
                face.add(call.group(1) + "(" + call.group(2).replace("int ", "") + ")");
            }
        }
        Set<String> told = new TreeSet<>();
        for (String[] row : rows(3, "\\w+\\(.*\\)")) {
            told.add(row[0]);
        }
        Due.due("README.md: calls", told.size(), 29);
        Due.holds("README.md: the calls are " + told + ", those of the document are " + face, told.equals(face));
    }

    private void callsAndRefusals() {
        for (String[] row : rows(3, "\\w+\\(.*\\)")) {
            String name = row[0].substring(0, row[0].indexOf('('));
            String promise = promiseOf(name);
            Due.holds("README.md: " + row[0] + ": refusals are " + words(row[2]) + ", due are " + words(promise),
                words(row[2]).equals(words(promise)));
            Due.holds("README.md: " + row[0] + ": NONE", row[1].contains("NONE") == promise.contains("NONE"));
        }
    }

    private String promiseOf(String name) {
        for (String line : document) {
            Matcher promise = PROMISE.matcher(line);
            if (promise.matches() && promise.group(1).equals(name)) {
                return promise.group(2);
            }
        }
        throw new IllegalStateException("the document has no promise of " + name);
    }

    private static List<String> words(String text) {
        List<String> words = new ArrayList<>();
        Matcher word = WORD.matcher(text);
        while (word.find()) {
            words.add(word.group());
        }
        return words;
    }

    private void commandOfTests() {
        List<List<String>> commands = blocks("sh");
        Due.holds("README.md: one command: " + commands, commands.equals(List.of(List.of(".ci/run"))));
        Due.holds(".ci/run can be run", Files.isExecutable(project.resolve(".ci/run")));
    }
}
