import java.io.File;
import java.lang.reflect.Method;
import java.lang.reflect.Modifier;
import java.util.ArrayList;
import java.util.Collections;
import java.util.List;
import java.util.regex.Matcher;
import java.util.regex.Pattern;

/** What README.md says is so: its example and its commands do what it says they do. */
public final class ReadmeTest {
    private static final String PROGRAM = "src/main/java/TallyWax.java";
    private static final String USING = "Using the class";
    private static final String CALLS = "The calls";
    private static final String TESTS = "Running the tests";
    private static final Pattern NAME = Pattern.compile("`(\\w+)`");

    private static final Page README = Page.ofReadme();
    private static final Checks CHECKS = new Checks();

    public static void main(String[] args) {
        exampleDoesWhatItSays();
        callsAreAllThere();
        testsAreAllThere();
        commandRunsEveryTest();
        commandRunsOneTest();
        commandFailsIfOneFails();
        commandFailsIfOneIsMissing();
        CHECKS.close("ReadmeTest");
    }

    private static void endsWell(String what, Workplace place, String commands) {
        int code = place.run(commands);
        CHECKS.equal("the exit code of " + what + ", complaints [" + place.complaints() + "],", 0, code);
    }

    // ---- using the class

    private static void exampleDoesWhatItSays() {
        Workplace place = new Workplace("example");
        place.copy(PROGRAM);
        place.write("Example.java", README.block(USING, "java"));
        endsWell("the example", place, README.block(USING, "sh"));
        CHECKS.equal("what the example prints", README.block(USING, "text"), place.printed());
    }

    private static void callsAreAllThere() {
        List<String> calls = new ArrayList<>();
        for (Method method : TallyWax.class.getDeclaredMethods()) {
            if (Modifier.isPublic(method.getModifiers())) {
                calls.add(method.getName());
            }
        }
        List<String> named = new ArrayList<>();
        for (String line : README.section(CALLS)) {
            if (line.startsWith("|")) {
                addNames(named, line);
            }
        }
        Collections.sort(calls);
        Collections.sort(named);
        CHECKS.equal("the calls of the table", calls.toString(), named.toString());
    }

    private static void addNames(List<String> named, String line) {
        Matcher name = NAME.matcher(line);
        while (name.find()) {
            named.add(name.group(1));
        }
    }

    // ---- running the tests

    private static void testsAreAllThere() {
        List<String> tests = new ArrayList<>();
        File[] files = new File("src/test/java").listFiles();
        for (File file : files == null ? new File[0] : files) {
            if (file.getName().endsWith("Test.java")) {
                tests.add(file.getName().replace(".java", ""));
            }
        }
        List<String> named = new ArrayList<>();
        for (String line : README.section(TESTS)) {
            if (line.startsWith("| `")) {
                named.add(line.split("`")[1]);
            }
        }
        Collections.sort(tests);
        Collections.sort(named);
        CHECKS.equal("the tests of the table", tests.toString(), named.toString());
    }

    /** A project with one test of its own and one shared test, each of which ends with this exit code. */
    private static Workplace project(String name, int ownCode, int sharedCode) {
        Workplace place = new Workplace(name);
        place.copy(PROGRAM);
        place.copy(".ci/run");
        place.write("src/test/java/OwnTest.java", testThatEndsWith("OwnTest", ownCode));
        place.write("../shared/tests/SharedRuns.java", testThatEndsWith("SharedRuns", sharedCode));
        return place;
    }

    private static String testThatEndsWith(String name, int code) {
        return "public final class " + name + " {\n"
                + "    public static void main(String[] args) {\n"
                + "        System.exit(new TallyWax().year() + " + code + ");\n"
                + "    }\n"
                + "}\n";
    }

    private static void commandRunsEveryTest() {
        Workplace place = project("all", 0, 0);
        place.write("src/test/java/OtherTest.java", testThatEndsWith("OtherTest", 0));
        place.write("../shared/tests/OtherRuns.java", testThatEndsWith("OtherRuns", 0));
        endsWell("tests that pass", place, README.block(TESTS, "sh"));
        String due = "ok: OtherTest\nok: OwnTest\nok: shared OtherRuns\nok: shared SharedRuns\n4 passed, 0 failed\n";
        CHECKS.equal("what is printed of tests that pass", due, place.printed());
    }

    private static void commandRunsOneTest() {
        String last = "";
        for (String line : README.section(TESTS)) {
            last = line.startsWith("java -cp") ? line : last;
        }
        Workplace place = project("one", 0, 0);
        for (String file : new String[] {"PromisesTest", "Banks", "Checks"}) {
            place.copy("src/test/java/" + file + ".java");
        }
        endsWell("the tests ahead of one alone", place, README.block(TESTS, "sh"));
        endsWell("one test alone", place, last);
        CHECKS.equal("that PromisesTest alone is run", true, place.printed().startsWith("PromisesTest: "));
    }

    private static void commandFailsIfOneFails() {
        fails("a test of the project that fails", project("own", 1, 0));
        fails("a shared test that fails", project("shared", 0, 1));
        Workplace compilesNot = project("compilesNot", 0, 0);
        compilesNot.write("src/test/java/OtherTest.java", "public final class OtherTest {");
        fails("a test of the project that does not compile", compilesNot);
        Workplace sharedCompilesNot = project("sharedCompilesNot", 0, 0);
        sharedCompilesNot.write("../shared/tests/OtherRuns.java", "public final class OtherRuns {");
        fails("a shared test that does not compile", sharedCompilesNot);
    }

    private static void commandFailsIfOneIsMissing() {
        Workplace alone = new Workplace("alone");
        alone.copy(PROGRAM);
        alone.copy(".ci/run");
        alone.write("src/test/java/OwnTest.java", testThatEndsWith("OwnTest", 0));
        fails("no folder of shared tests", alone);
    }

    private static void fails(String what, Workplace place) {
        int code = place.run(README.block(TESTS, "sh"));
        CHECKS.equal("that .ci/run fails by " + what, true, code != 0);
    }
}
