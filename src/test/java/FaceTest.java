import java.lang.reflect.Constructor;
import java.lang.reflect.Field;
import java.lang.reflect.InvocationTargetException;
import java.lang.reflect.Method;
import java.lang.reflect.Modifier;
import java.util.Arrays;
import java.util.List;
import java.util.Random;
import java.util.TreeSet;

/** The public face of all promises, and that calls with any arguments throw what the document names and nothing else. */
public final class FaceTest {
    private static final Check CHECK = new Check();
    private static final List<String> FACE = List.of(
        "void form(int,int,int,int) IllegalArgumentException",
        "int sample(int,int) IllegalArgumentException",
        "int ramp(int,int,int,int) IllegalArgumentException",
        "int noise(int,int,int,int) IllegalArgumentException",
        "void clear()",
        "int at(int,int) IllegalArgumentException IndexOutOfBoundsException",
        "long sum(int) IllegalArgumentException IllegalStateException",
        "int encode(boolean) IllegalStateException",
        "int told(int) IllegalArgumentException",
        "int frame(int,int) IllegalArgumentException IndexOutOfBoundsException",
        "long stream(int)",
        "int feed(int,long) IllegalArgumentException",
        "int cut(int) IllegalArgumentException",
        "int spoil(int,int) IndexOutOfBoundsException IllegalArgumentException",
        "void seal(int,int,int) IllegalArgumentException IndexOutOfBoundsException",
        "int decode()",
        "int fault()",
        "int place()",
        "int heard(int,int) IllegalArgumentException IndexOutOfBoundsException");

    public static void main(String[] args) throws ReflectiveOperationException {
        face();
        for (int seed = 0; seed < 60; seed++) {
            anyArguments(new Random(seed));
        }
        CHECK.end();
    }

    private static void face() {
        TreeSet<String> got = new TreeSet<>();
        for (Method method : SoundStream.class.getDeclaredMethods()) {
            if (!Modifier.isPrivate(method.getModifiers())) {
                got.add(written(method));
                CHECK.due("the modifiers of " + method.getName(), method.getModifiers(), Modifier.PUBLIC);
            }
        }
        TreeSet<String> due = new TreeSet<>(FACE);
        CHECK.due("the methods " + got, got.equals(due) ? 1 : 0, 1);
        CHECK.due("the class", SoundStream.class.getModifiers(), Modifier.PUBLIC | Modifier.FINAL);
        Constructor<?>[] constructors = SoundStream.class.getDeclaredConstructors();
        CHECK.due("constructors", constructors.length, 1);
        CHECK.due("its modifiers", constructors[0].getModifiers(), Modifier.PUBLIC);
        CHECK.due("its parameters", constructors[0].getParameterCount(), 0);
        CHECK.due("what it is said to throw", constructors[0].getExceptionTypes().length, 0);
        CHECK.due("what the class extends is Object", SoundStream.class.getSuperclass() == Object.class ? 1 : 0, 1);
        CHECK.due("interfaces", SoundStream.class.getInterfaces().length, 0);
        constant();
    }

    private static void constant() {
        long fields = Arrays.stream(SoundStream.class.getDeclaredFields()).filter(f -> !Modifier.isPrivate(f.getModifiers())).count();
        CHECK.due("fields that are not private", fields, 1);
        // a switch takes nothing but a constant
        switch (-1) {
            case SoundStream.NONE:
                break;
            default:
                CHECK.due("NONE", SoundStream.NONE, -1);
        }
        for (Field field : SoundStream.class.getFields()) {
            CHECK.due("the one public field is NONE", field.getName().equals("NONE") && field.getType() == int.class ? 1 : 0, 1);
            CHECK.due("its modifiers", field.getModifiers(), Modifier.PUBLIC | Modifier.STATIC | Modifier.FINAL);
        }
        CHECK.due("public fields", SoundStream.class.getFields().length, 1);
    }

    private static String written(Method method) {
        StringBuilder text = new StringBuilder(method.getReturnType() + " " + method.getName() + "(");
        for (int i = 0; i < method.getParameterCount(); i++) {
            text.append(i == 0 ? "" : ",").append(method.getParameterTypes()[i]);
        }
        text.append(")");
        for (Class<?> thrown : method.getExceptionTypes()) {
            text.append(" ").append(thrown.getSimpleName());
        }
        return text.toString();
    }

    private static void anyArguments(Random random) throws ReflectiveOperationException {
        SoundStream x = new SoundStream();
        Method[] methods = SoundStream.class.getDeclaredMethods();
        Arrays.sort(methods, java.util.Comparator.comparing(Method::getName));
        for (int call = 0; call < 512; call++) {
            Method method = methods[random.nextInt(methods.length)];
            if (Modifier.isPrivate(method.getModifiers())) {
                continue;
            }
            Object[] args = new Object[method.getParameterCount()];
            for (int i = 0; i < args.length; i++) {
                Class<?> type = method.getParameterTypes()[i];
                args[i] = type == boolean.class ? (Object) random.nextBoolean() : type == long.class ? (Object) random.nextLong() : (Object) any(random);
            }
            Class<?> thrown = null;
            try {
                method.invoke(x, args);
            } catch (InvocationTargetException e) {
                thrown = e.getCause().getClass();
            }
            boolean named = thrown == null || Arrays.asList(method.getExceptionTypes()).contains(thrown);
            CHECK.due(method.getName() + Arrays.toString(args) + " throws " + thrown + ", as named", named ? 1 : 0, 1);
        }
    }

    private static int any(Random random) {
        int[] edges = {Integer.MIN_VALUE, Integer.MAX_VALUE, Integer.MIN_VALUE + 7, Integer.MAX_VALUE - 7, -1, 42, 1200, 9000};
        switch (random.nextInt(8)) {
            case 0: return edges[random.nextInt(edges.length)];
            case 1: return random.nextInt();
            case 2: return random.nextInt(1300);
            case 3: return random.nextInt(30);
            default: return random.nextInt(3);
        }
    }
}
