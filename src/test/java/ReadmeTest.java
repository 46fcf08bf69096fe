import java.io.IOException;
import java.nio.charset.StandardCharsets;
import java.nio.file.Files;
import java.nio.file.Path;

/** The program that README.md shows prints what README.md tells. */
public final class ReadmeTest {
    private static final String WORK = "build/readme";
    private static final String SOURCE = WORK + "/Example.java";

    public static void main(String[] args) throws IOException {
        Check check = new Check("ReadmeTest");
        String readme = Files.readString(Path.of("README.md"));
        Files.createDirectories(Path.of(WORK));
        Files.writeString(Path.of(SOURCE), block(readme, "java"));
        check.same("javac on the program of README.md", printedBy("javac", "--release", "17",
            "-d", WORK, "src/main/java/EchoFair.java", SOURCE), "");
        check.same("the program of README.md", printedBy("java", "-cp", WORK, "Example"),
            block(readme, "text"));
        changesAreNamed(check, readme);
        check.finish();
    }

    private static String block(String readme, String kind) {
        String start = "```" + kind + "\n";
        int from = readme.indexOf(start) + start.length();
        return readme.substring(from, readme.indexOf("```", from));
    }

    private static String printedBy(String... command) throws IOException {
        Process process = new ProcessBuilder(command).redirectError(ProcessBuilder.Redirect.INHERIT)
            .start();
        String text = new String(process.getInputStream().readAllBytes(), StandardCharsets.UTF_8);
        return text.replace(System.lineSeparator(), "\n");
    }

    /** All but the plain queries, which README.md tells by their promises, have their names there. */
    private static void changesAreNamed(Check check, String readme) {
        String[] names = {"append", "truncate", "load", "executeCommands", "errorCode",
            "errorPosition", "findEcho", "findValley", "passDays", "holdFair", "test", "dismiss",
            "setWage", "fund", "train", "undo", "save", "restore", "formatContracts",
            "outputByte"};
        for (String name : names) {
            check.yes("README.md names " + name, readme.contains("`" + name + "`"));
        }
        check.yes("README.md tells how to run the tests", readme.contains("\n    .ci/run\n"));
    }
}
