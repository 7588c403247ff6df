import java.io.IOException;
import java.lang.reflect.Field;
import java.lang.reflect.Method;
import java.lang.reflect.Modifier;
import java.nio.file.Files;
import java.nio.file.Path;
import java.util.ArrayList;
import java.util.HashSet;
import java.util.List;
import java.util.Set;
import java.util.regex.Matcher;
import java.util.regex.Pattern;
import java.util.stream.Stream;

/** Those rules of ../shared/LANGUAGE.md that can be seen without reading the program by eye. */
public final class LanguageTest {
    private static final Check CHECK = new Check();
    private static final Path FOLDER = Path.of("src/main/java");
    private static final Set<Class<?>> CONSTANTS = Set.of(
        int.class, long.class, boolean.class, char.class, String.class, int[].class, long[].class, char[].class, byte[].class);
    private static final String EXCEPTIONS = "(IllegalState|IllegalArgument|IndexOutOfBounds|Arithmetic|UnsupportedOperation|NoSuchElement|Runtime)Exception";

    public static void main(String[] args) throws IOException {
        oneFile();
        List<Class<?>> classes = new ArrayList<>();
        classes.add(SoundStream.class);
        for (Class<?> inside : SoundStream.class.getDeclaredClasses()) {
            classes.add(inside);
            inside(inside);
        }
        CHECK.due("rule 11: at most some twelve classes", classes.size() <= 12 ? 1 : 0, 1);
        for (Class<?> each : classes) {
            fields(each);
            methods(each);
        }
        String code = withoutComments(Files.readString(FOLDER.resolve("SoundStream.java")));
        words(code);
        exceptions(code);
        lengths(code);
        CHECK.end();
    }

    private static void holds(String rule, boolean holds) {
        CHECK.due(rule, holds ? 1 : 0, 1);
    }

    private static void oneFile() throws IOException {
        try (Stream<Path> files = Files.walk(Path.of("src/main"))) {
            CHECK.due("files of the program", files.filter(Files::isRegularFile).count(), 1);
        }
        holds("without a package", SoundStream.class.getPackageName().isEmpty());
    }

    private static void inside(Class<?> each) {
        int modifiers = each.getModifiers();
        holds("rule 1: " + each + " is static", Modifier.isStatic(modifiers));
        holds("rule 1: " + each + " is hidden", !Modifier.isPublic(modifiers) && !Modifier.isProtected(modifiers));
        CHECK.due("classes inside " + each, each.getDeclaredClasses().length, 0);
    }

    private static void fields(Class<?> each) {
        int own = 0;
        for (Field field : each.getDeclaredFields()) {
            if (Modifier.isStatic(field.getModifiers())) {
                holds("rule 5: " + field, Modifier.isFinal(field.getModifiers()) && CONSTANTS.contains(field.getType()));
            } else {
                own++;
            }
        }
        holds("rule 11: at most some twenty fields of " + each, own <= 20);
    }

    private static void methods(Class<?> each) {
        Set<String> open = new HashSet<>();
        for (Method method : SoundStream.class.getMethods()) {
            open.add(method.getName());
        }
        for (Method method : each.getDeclaredMethods()) {
            holds("rule 2: no lambda, " + method, !method.isSynthetic());
            holds("rule 11: at most seven parameters, " + method, method.getParameterCount() <= 7);
            holds("rule 1: no name of a public method, " + method, each == SoundStream.class && Modifier.isPublic(method.getModifiers()) || !open.contains(method.getName()));
        }
    }

    private static String withoutComments(String text) {
        return text.replaceAll("(?s)/\\*.*?\\*/", "").replaceAll("//[^\n]*", "");
    }

    private static void words(String code) {
        String[] never = {
            "->", "::", "\\bsynchronized\\b", "\\bassert\\b", "\\bfinally\\b", "\\bprotected\\b", "\\bstatic\\s*\\{", "\\bSystem\\.(?!arraycopy)",
            "\\bMath\\.\\w*Exact\\b", "\\bdouble\\b", "\\bfloat\\b", "\\bpackage\\b", "\\bThread\\b", "\\bgetMessage\\b", "\\bwhile\\s*\\(true\\)", "\\bfor\\s*\\([^;]*;\\s*;"
        };
        for (String word : never) {
            holds("no " + word, !Pattern.compile(word).matcher(code).find());
        }
        Matcher imports = Pattern.compile("import\\s+([^;]+);").matcher(code);
        while (imports.find()) {
            holds("rule 4: import " + imports.group(1), imports.group(1).matches("java\\.util\\.(Arrays|ArrayList|List|Iterator|NoSuchElementException)"));
        }
        Matcher calls = Pattern.compile("\\bArrays\\.(\\w+)").matcher(code);
        while (calls.find()) {
            holds("rule 4: Arrays." + calls.group(1), calls.group(1).matches("copyOf|copyOfRange|fill"));
        }
    }

    private static void exceptions(String code) {
        Matcher thrown = Pattern.compile("\\bthrow\\s+[^;]*;").matcher(code);
        int seen = 0;
        while (thrown.find()) {
            seen++;
            holds("rule 6: " + thrown.group(), thrown.group().matches("throw new " + EXCEPTIONS + "\\((\"[^\"]*\")?\\);"));
        }
        holds("exceptions are thrown", seen > 0);
        Matcher caught = Pattern.compile("\\bcatch\\s*\\(\\s*([\\w.]+)").matcher(code);
        while (caught.find()) {
            // of the classes that may be thrown, these are what the machine throws, or above it
            String machines = "(Runtime|IndexOutOfBounds|Arithmetic)Exception";
            holds("rule 6: catch " + caught.group(1), caught.group(1).matches(EXCEPTIONS) && !caught.group(1).matches(machines));
        }
    }

    /** A method begins and ends with lines that are indented alike. */
    private static void lengths(String code) {
        String[] lines = code.split("\n");
        for (int i = 0; i < lines.length; i++) {
            if (!lines[i].matches("( {4}| {8})\\w.*\\) (throws .*)?\\{") || lines[i].trim().matches("(if|for|while|switch)\\b.*")) {
                continue;
            }
            String end = lines[i].substring(0, lines[i].length() - lines[i].stripLeading().length()) + "}";
            int length = 1;
            while (i + length < lines.length && !lines[i + length].equals(end)) {
                length++;
            }
            holds("rule 11: some sixty lines, " + lines[i].trim() + " has " + (length + 1), length < 60);
        }
    }
}
