import java.io.File;
import java.io.IOException;
import java.nio.file.Files;
import java.nio.file.Path;
import java.util.regex.Matcher;
import java.util.regex.Pattern;

/** What README.md says of using the class and of running its tests is true as it is written. */
public final class ReadmeTest {
    private static final Check CHECK = new Check();

    public static void main(String[] args) throws IOException, InterruptedException {
        String readme = Files.readString(Path.of("README.md"));
        example(readme);
        testCommand(readme);
        namesThatAreThere(readme);
        CHECK.end();
    }

    private static void same(String what, String got, String due) {
        CHECK.due(got.equals(due) ? what : what + " is\n" + got + "and due is\n" + due, got.equals(due) ? 1 : 0, 1);
    }

    /** What stands in the place-th block of a kind. */
    private static String block(String readme, String kind, int place) {
        Matcher found = Pattern.compile("(?ms)^```" + kind + "\n(.*?)^```$").matcher(readme);
        for (int i = 0; i < place; i++) {
            found.find();
        }
        return found.find() ? found.group(1) : "no such block of " + kind + "\n";
    }

    /** The example stands in a folder like the project's, and its commands are those of README.md. */
    private static void example(String readme) throws IOException, InterruptedException {
        Folder folder = new Folder();
        folder.put("src/main/java/SoundStream.java", Files.readString(Path.of("src/main/java/SoundStream.java")));
        folder.put("Example.java", block(readme, "java", 0));
        String commands = block(readme, "sh", 0);
        CHECK.due("the example's commands: exit code", folder.run("set -e\n" + commands), 0);
        same("what the example prints", folder.printed(), block(readme, "text", 0));
        folder.remove();
    }

    private static void testCommand(String readme) {
        String command = block(readme, "sh", 1).trim();
        same("the command for the tests", command, ".ci/run");
        File script = new File(command);
        CHECK.due("it is a file that can be run", script.isFile() && script.canExecute() ? 1 : 0, 1);
    }

    /** Each name of a test or a helper in README.md is that of a file. */
    private static void namesThatAreThere(String readme) {
        Matcher names = Pattern.compile("`(\\w*Test|Refusals|Recipes|Renewed)`").matcher(readme);
        int seen = 0;
        while (names.find()) {
            seen++;
            String name = names.group(1) + ".java";
            boolean there = Files.exists(Path.of("src/test/java", name)) || Files.exists(Path.of("src/test/java/support", name));
            CHECK.due(name + " is there", there ? 1 : 0, 1);
        }
        CHECK.due("tests are named", seen > 0 ? 1 : 0, 1);
        Matcher classes = Pattern.compile("`([A-Z]\\w+)`").matcher(readme.substring(readme.indexOf("## Inside"), readme.indexOf("## Tests")));
        while (classes.find()) {
            String name = classes.group(1);
            boolean there = java.util.Arrays.stream(SoundStream.class.getDeclaredClasses()).anyMatch(c -> c.getSimpleName().equals(name));
            CHECK.due(name + " is a class inside", there ? 1 : 0, 1);
        }
    }
}
