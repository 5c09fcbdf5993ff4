import java.nio.file.Files;
import java.nio.file.Path;
import java.util.List;
import java.util.regex.Matcher;
import java.util.regex.Pattern;
import java.util.stream.Stream;

/** What README.md says is so: each answer in its examples, and each test that it names, with none left out. */
public final class ReadmeTest {
    private static final Pattern TYPED = Pattern.compile("for \\(char letter : \"([^\"]*)\"\\.toCharArray\\(\\)\\) \\{");
    private static final Pattern ASKED = Pattern.compile(" *x\\.(\\w+\\([-0-9, ]*\\)); *// (-?\\d+)[:,]? ?.*");

    private final Check check = new Check();
    private final Path project;
    private final String readme;

    private ReadmeTest(Path project) throws Exception {
        this.project = project;
        this.readme = Files.readString(project.resolve("README.md"));
    }

    public static void main(String[] args) throws Exception {
        ReadmeTest test = new ReadmeTest(Path.of(args.length > 0 ? args[0] : "."));
        test.examplesAreSo();
        test.answersAreNamed();
        test.testsAreNamed();
        test.check.close("ReadmeTest");
    }

    /** One object goes through all of them, as they stand. */
    private void examplesAreSo() {
        LeanDiagonals x = new LeanDiagonals();
        int asked = 0;
        Matcher examples = Pattern.compile("(?s)```java\n(.*?)```").matcher(readme);
        while (examples.find()) {
            for (String line : examples.group(1).split("\n")) {
                Matcher typed = TYPED.matcher(line);
                Matcher call = ASKED.matcher(line);
                if (typed.matches()) {
                    Script.type(x, typed.group(1));
                } else if (call.matches()) {
                    check.due("README.md: " + line, Script.ask(x, call.group(1)), Long.parseLong(call.group(2)));
                    asked++;
                }
            }
        }
        int told = readme.split("\nx\\.", -1).length - 1;
        check.due("README.md's calls that were asked", asked, told);
        check.due("README.md's examples ask enough", asked >= 20 ? 1 : 0, 1);
    }

    private void answersAreNamed() throws Exception {
        for (String name : new String[] {"BAD", "NOT", "FULL", "NONE", "NULL", "CAST", "INDEX", "SIZE"}) {
            String told = "`" + name + "` " + LeanDiagonals.class.getField(name).getInt(null);
            check.due("README.md has " + told, readme.contains(told) ? 1 : 0, 1);
        }
    }

    private void testsAreNamed() throws Exception {
        try (Stream<Path> files = Files.list(project.resolve("src/test/java"))) {
            List<String> names = files.map(file -> file.getFileName().toString().replace(".java", "")).toList();
            for (String name : names) {
                check.due("README.md names " + name, readme.contains("`" + name) ? 1 : 0, 1);
            }
            Matcher named = Pattern.compile("`(\\w+Test)(\\.java)?`").matcher(readme);
            while (named.find()) {
                check.due("there is " + named.group(1), names.contains(named.group(1)) ? 1 : 0, 1);
            }
        }
        check.due(".ci/run can be run", Files.isExecutable(project.resolve(".ci/run")) ? 1 : 0, 1);
    }
}
