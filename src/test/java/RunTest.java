import java.io.IOException;
import java.nio.file.Files;
import java.nio.file.Path;

/** .ci/run: every test of the project and every test under ../shared/tests is run, and it fails if one fails. */
public final class RunTest {
    private static final Check CHECK = new Check();

    public static void main(String[] args) throws IOException, InterruptedException {
        run("all pass", 0, new String[0], new String[] {"OneTest", "First", "Later", "Deep"});
        run("one of the project fails", 1, new String[] {"project/src/test/java/TwoTest.java"}, new String[] {"OneTest", "First", "Deep"});
        run("a later shared one fails", 1, new String[] {"shared/tests/Later.java"}, new String[] {"OneTest", "First", "Deep"});
        run("a shared one in a folder fails", 1, new String[] {"shared/tests/more/Deep.java"}, new String[] {"OneTest", "First", "Later"});
        notCompiled();
        noShared();
        CHECK.end();
    }

    private static String test(String name, boolean fails) {
        return "public final class " + name + " { public static void main(String[] a) { new SoundStream(); System.out.println(\"ran \" + \"" + name + "\"); "
            + (fails ? "System.exit(1); " : "") + "} }\n";
    }

    /** A project with a class without members, two tests, a helper, and three shared tests. */
    private static Folder project(String... failing) throws IOException {
        Folder folder = new Folder();
        folder.put("project/.ci/run", Files.readString(Path.of(".ci/run")));
        folder.path("project/.ci/run").toFile().setExecutable(true);
        folder.put("project/src/main/java/SoundStream.java", "public final class SoundStream { }\n");
        folder.put("project/src/test/java/support/Helper.java", "final class Helper { }\n");
        String[] all = {
            "project/src/test/java/OneTest.java", "project/src/test/java/TwoTest.java", "shared/tests/First.java", "shared/tests/Later.java",
            "shared/tests/more/Deep.java"
        };
        for (String each : all) {
            String name = each.substring(each.lastIndexOf('/') + 1, each.length() - 5);
            folder.put(each, test(name, java.util.List.of(failing).contains(each)));
        }
        return folder;
    }

    private static void run(String what, int exit, String[] failing, String[] ran) throws IOException, InterruptedException {
        Folder folder = project(failing);
        CHECK.due(what + ": exit code", folder.run("project/.ci/run"), exit);
        for (String name : ran) {
            CHECK.due(what + ": " + name + " is run", folder.printed().contains("ran " + name) ? 1 : 0, 1);
        }
        folder.remove();
    }

    private static void notCompiled() throws IOException, InterruptedException {
        Folder shared = project();
        shared.put("shared/tests/Later.java", "public final class Later { no }\n");
        CHECK.due("a shared one that can't be compiled: exit code", shared.run("project/.ci/run"), 1);
        CHECK.due("the others are run", shared.printed().contains("ran Deep") ? 1 : 0, 1);
        shared.remove();
        Folder own = project();
        own.put("project/src/test/java/TwoTest.java", "public final class TwoTest { no }\n");
        CHECK.due("one of the project that can't be compiled: exit code", own.run("project/.ci/run"), 1);
        own.remove();
    }

    private static void noShared() throws IOException, InterruptedException {
        Folder folder = project();
        CHECK.due("no shared tests: exit code", folder.run("rm -r shared/tests; project/.ci/run"), 1);
        folder.remove();
    }
}
