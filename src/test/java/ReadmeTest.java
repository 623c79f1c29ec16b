import java.io.IOException;
import java.lang.reflect.Method;
import java.lang.reflect.Modifier;
import java.nio.file.Files;
import java.nio.file.Path;
import java.util.ArrayList;
import java.util.Arrays;
import java.util.List;
import java.util.Set;
import java.util.TreeSet;
import java.util.regex.MatchResult;
import java.util.regex.Pattern;
import java.util.stream.Collectors;
import java.util.stream.Stream;

/** README.md: its steps are followed as they stand, and what it names must be there. */
public final class ReadmeTest {

    private static final String PAGE = "README.md";
    private static final String TESTS = "src/test/java";

    /** What stands between two fences, the word behind the first one, and the text ahead of it. */
    private static final class Block {
        final String kind;
        final String text;
        final String ahead;

        Block(String kind, String text, String ahead) {
            this.kind = kind;
            this.text = text;
            this.ahead = ahead;
        }
    }

    public static void main(String[] args) throws IOException {
        Check.about(PAGE + ": ");
        String page = Files.readString(Path.of(PAGE));
        follow(blocks(page));
        namesFiles(page);
        namesTests(page);
        namesCalls(page);
        Check.close("ReadmeTest");
    }

    private static List<Block> blocks(String page) {
        List<Block> blocks = new ArrayList<>();
        int aheadFrom = 0;
        for (MatchResult found : all("(?ms)^```(\\w+)\n(.*?)^```$", page)) {
            blocks.add(new Block(found.group(1), found.group(2), page.substring(aheadFrom, found.start())));
            aheadFrom = found.end();
        }
        Check.due("fences", page.split("```", -1).length - 1, 2 * blocks.size());
        return blocks;
    }

    /** Each step in a copy of its own, so that none of them leans on another. */
    private static void follow(List<Block> blocks) throws IOException {
        int steps = 0;
        int programs = 0;
        String printed = "";
        for (Block block : blocks) {
            switch (block.kind) {
                case "java":
                    dueProgram(block);
                    programs++;
                    break;
                case "sh":
                    printed = followed(block.text);
                    steps++;
                    break;
                case "text":
                    Check.dueText("the step ahead", printed, block.text);
                    break;
                default:
                    Check.dueTrue("a known kind of '" + block.text + "'", false);
            }
        }
        Check.due("programs", programs, 1);
        Check.due("steps: for the class, for all tests, for one test", steps, 3);
    }

    private static String followed(String step) throws IOException {
        try (Workroom room = roomFor(step)) {
            Workroom.Outcome outcome = room.run(step);
            Check.due("the exit code of '" + step + "'", outcome.exit, 0);
            return outcome.printed;
        }
    }

    /** The script would run this very test, so it is followed in a project with other tests. */
    private static Workroom roomFor(String step) throws IOException {
        return step.strip().equals(RunTest.SCRIPT) ? RunTest.passing()
                : new Workroom().copy(PAGE).copy("src").copy(".ci");
    }

    /** The program that the page shows is the file that it names. */
    private static void dueProgram(Block block) throws IOException {
        List<MatchResult> names = all("`(src/[^`]+[.]java)` is such a program", block.ahead);
        Check.due("files of a shown program", names.size(), 1);
        for (MatchResult name : names) {
            Check.dueText("the shown program", block.text, Files.readString(Path.of(name.group(1))));
        }
    }

    private static void namesFiles(String page) {
        for (MatchResult name : all("(?:src/|[.]ci/)[\\w./]+\\b", page)) {
            Check.dueTrue("the project has " + name.group(), Files.exists(Path.of(name.group())));
        }
        for (MatchResult name : all("`([A-Z]\\w+)`", page)) {
            boolean isException = name.group(1).endsWith("Exception");
            Path test = Path.of(TESTS, name.group(1) + ".java");
            Check.dueTrue("there is a test's class " + name.group(1), isException || Files.exists(test));
        }
    }

    private static void namesTests(String page) throws IOException {
        try (Stream<Path> files = Files.list(Path.of(TESTS))) {
            for (Path file : files.collect(Collectors.toList())) {
                String name = file.getFileName().toString().replace(".java", "");
                Check.dueTrue("it tells of " + name,
                        !name.endsWith("Test") || page.contains("`" + name + "`"));
            }
        }
    }

    /** Each call stands in the page's rows as in the document, with the number of its promise. */
    private static void namesCalls(String page) {
        Set<String> rows = new TreeSet<>();
        for (MatchResult row : all("(?m)^[|] (\\d+) [|] `(\\w+)[(](.*)[)]` [|] .+ [|]$", page)) {
            String told = row.group(2) + "(" + row.group(3) + ")";
            Check.dueTrue("one row of " + told, rows.add("promise " + row.group(1) + ": " + told));
        }
        Set<String> face = Arrays.stream(DeltaNights.class.getDeclaredMethods())
                .filter(method -> Modifier.isPublic(method.getModifiers()))
                .map(ReadmeTest::nameAndCount).collect(Collectors.toCollection(TreeSet::new));
        Check.dueText("calls and how many arguments they have", rows.stream().map(ReadmeTest::nameAndCount)
                .collect(Collectors.toCollection(TreeSet::new)).toString(), face.toString());
        if (Edge.hasDocument()) {
            Check.dueText("calls", rows.toString(), callsOfDocument().toString());
        }
    }

    private static String nameAndCount(Method method) {
        return method.getName() + " " + method.getParameterCount();
    }

    private static String nameAndCount(String row) {
        String arguments = row.substring(row.indexOf('(') + 1, row.length() - 1);
        String name = row.substring(row.indexOf(": ") + 2, row.indexOf('('));
        return name + " " + (arguments.isEmpty() ? 0 : arguments.split(", ").length);
    }

    private static Set<String> callsOfDocument() {
        Set<String> calls = new TreeSet<>();
        String document = String.join("\n", Edge.document());
        String part = "(?m)^## Promise (\\d+): \\w+\n\n`\\w+ (\\w+)[(](.*?)[)]";
        for (MatchResult found : all(part, document)) {
            calls.add("promise " + found.group(1) + ": " + found.group(2) + "("
                    + found.group(3).replaceAll("int ", "") + ")");
        }
        return calls;
    }

    private static List<MatchResult> all(String pattern, String text) {
        return Pattern.compile(pattern).matcher(text).results().collect(Collectors.toList());
    }
}
