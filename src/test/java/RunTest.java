import java.io.IOException;

/** The script .ci/run: it passes with tests that pass, and fails with each kind of fault. */
public final class RunTest {

    static final String SCRIPT = ".ci/run";
    private static final String PROGRAM = "src/main/java/DeltaNights.java";
    private static final String OWN = "src/test/java/OwnTest.java";
    private static final String SHARED = "../shared/tests/some/SharedRuns.java";

    public static void main(String[] args) throws IOException {
        due("tests that pass", passing(), true, "2 passed, 0 failed");
        due("a test of the project that fails", passing().write(OWN, test("OwnTest", 1)), false,
                "1 passed, 1 failed");
        due("a shared test that fails", passing().write(SHARED, test("SharedRuns", 1)), false,
                "1 passed, 1 failed");
        due("a shared test that does not compile", passing().write(SHARED, "?"), false,
                "1 passed, 1 failed");
        due("a test of the project that does not compile", passing().write(OWN, "?"), false, "");
        due("a program that does not compile", passing().write(PROGRAM, "?"), false, "");
        due("nothing shared", ofProject(), false, "there is no ../shared/tests");
        Check.close("RunTest");
    }

    /** A project with the program, the script and two tests that pass: its own and a shared one. */
    static Workroom passing() throws IOException {
        return ofProject().write(SHARED, test("SharedRuns", 0));
    }

    private static Workroom ofProject() throws IOException {
        return new Workroom().copy(SCRIPT).copy(PROGRAM).write(OWN, test("OwnTest", 0));
    }

    private static String test(String name, int nightsDue) {
        return "public final class " + name + " {\n"
                + "    public static void main(String[] args) {\n"
                + "        System.exit(new DeltaNights().nights() == " + nightsDue + " ? 0 : 1);\n"
                + "    }\n"
                + "}\n";
    }

    private static void due(String kind, Workroom room, boolean passes, String lastLine)
            throws IOException {
        try (room) {
            Workroom.Outcome outcome = room.run(SCRIPT);
            Check.dueTrue(kind + ": exit code " + outcome.exit, (outcome.exit == 0) == passes);
            if (!lastLine.isEmpty()) {
                Check.dueText(kind + ": the last line", outcome.lastLine(), lastLine);
            }
        }
    }
}
