import java.lang.management.ManagementFactory;
import java.lang.reflect.Constructor;
import java.lang.reflect.Field;
import java.lang.reflect.Method;
import java.lang.reflect.Modifier;
import java.nio.file.Files;
import java.nio.file.Path;
import java.util.Arrays;
import java.util.List;
import java.util.Set;
import java.util.TreeSet;
import java.util.stream.Collectors;

/** The face is the document's and nothing else, and what LANGUAGE.md rules out of the source is not there. */
public final class FaceTest {
    private static final String INDEX = "IndexOutOfBoundsException";
    private static final String ARGUMENT = "IllegalArgumentException";
    private static final String ELEMENT = "NoSuchElementException";

    private static final List<String> FACE = List.of(
        "void frame(int, int) " + ARGUMENT,
        "int into(int, int) " + INDEX,
        "boolean fold(int, boolean) " + INDEX,
        "int table(int, int, int) " + INDEX + " " + ARGUMENT,
        "int vat(int, int) " + INDEX,
        "int tie(int, int, int) " + INDEX + " " + ARGUMENT,
        "int untie(int, int, int) " + INDEX + " " + ARGUMENT,
        "int bath(int) " + INDEX,
        "int colour(int, int) " + INDEX,
        "boolean bound(int, int) " + INDEX,
        "int want(int, int, int) " + INDEX + " " + ARGUMENT,
        "int plan(int) " + ARGUMENT,
        "int best(int) " + ARGUMENT,
        "int kept(int) " + ELEMENT,
        "int bits(int, int) " + INDEX,
        "int dye()",
        "void slip(int, int, int) " + INDEX + " " + ARGUMENT,
        "int seen(int, int) " + INDEX,
        "int blurred()",
        "int law(int, int, int)",
        "int rank(int) " + ARGUMENT,
        "int count(int) " + ELEMENT);

    private static final String[] RULED_OUT = {
        "->", "::", "finally", "synchronized", "assert ", "try ", "catch ", "package ", "Random", "System.nanoTime",
        "System.currentTimeMillis", "Exact(", "import java.util.*", "static {", "protected ", "Stream", "Math.random"};

    public static void main(String[] args) throws Exception {
        methods();
        members();
        source();
        room();
        Check.end("FaceTest");
    }

    private static String told(Method method) {
        String takes = Arrays.stream(method.getParameterTypes()).map(Class::getSimpleName).collect(Collectors.joining(", "));
        String throwing = Arrays.stream(method.getExceptionTypes()).map(Class::getSimpleName).collect(Collectors.joining(" "));
        return (method.getReturnType().getSimpleName() + " " + method.getName() + "(" + takes + ") " + throwing).trim();
    }

    private static void methods() {
        Set<String> found = new TreeSet<>();
        Set<String> names = new TreeSet<>();
        for (Method method : TiedFrame.class.getDeclaredMethods()) {
            if (Modifier.isPublic(method.getModifiers())) {
                found.add(told(method));
                names.add(method.getName());
                Check.due("static " + method, false, () -> Modifier.isStatic(method.getModifiers()));
            }
        }
        Check.due("the public methods", new TreeSet<>(FACE), () -> found);
        for (Class<?> inner : TiedFrame.class.getDeclaredClasses()) {
            for (Method method : inner.getDeclaredMethods()) {
                Check.due("the name of " + method, false, () -> names.contains(method.getName()));
            }
        }
        for (Method method : TiedFrame.class.getDeclaredMethods()) {
            boolean known = Modifier.isPublic(method.getModifiers());
            Check.due("private " + method, true, () -> known || Modifier.isPrivate(method.getModifiers()));
            Check.due("the name of " + method, known, () -> names.contains(method.getName()));
        }
    }

    private static void members() throws Exception {
        int type = TiedFrame.class.getModifiers();
        Check.due("public and final", true, () -> Modifier.isPublic(type) && Modifier.isFinal(type));
        Constructor<?>[] makers = TiedFrame.class.getDeclaredConstructors();
        Check.due("constructors", "1 public, 0 parameters", () -> makers.length + (Modifier.isPublic(makers[0].getModifiers())
            ? " public, " : " other, ") + makers[0].getParameterCount() + " parameters");
        for (Field field : TiedFrame.class.getDeclaredFields()) {
            int how = field.getModifiers();
            boolean constant = field.getName().equals("NONE");
            Check.due("public " + field, constant, () -> Modifier.isPublic(how));
            Check.due("private " + field, !constant, () -> Modifier.isPrivate(how));
            Check.due("static is final " + field, true, () -> !Modifier.isStatic(how) || Modifier.isFinal(how));
        }
        for (Class<?> inner : TiedFrame.class.getDeclaredClasses()) {
            int how = inner.getModifiers();
            Check.due("static " + inner, true, () -> Modifier.isStatic(how) && !Modifier.isPublic(how));
            long fields = Arrays.stream(inner.getDeclaredFields()).filter(f -> !Modifier.isStatic(f.getModifiers())).count();
            Check.due("few fields of " + inner, true, () -> fields <= 20);
        }
        Check.due("few classes", true, () -> TiedFrame.class.getDeclaredClasses().length < 12);
    }

    private static void source() throws Exception {
        String text = Files.readString(Path.of("src/main/java/TiedFrame.java"));
        for (String word : RULED_OUT) {
            Check.due("the source has " + word, false, () -> text.contains(word));
        }
        Check.due("signs beyond 127", 0L, () -> text.chars().filter(c -> c > 127).count());
        List<String> imports = text.lines().filter(line -> line.startsWith("import ")).collect(Collectors.toList());
        Check.due("imports", "[import java.util.NoSuchElementException;]", () -> imports);
    }

    /** All calls of a run live in one room, so no call may make anything but the exception that it throws. */
    private static void room() {
        com.sun.management.ThreadMXBean threads = (com.sun.management.ThreadMXBean) ManagementFactory.getThreadMXBean();
        long self = Thread.currentThread().getId();
        TiedFrame x = new TiedFrame();
        useAll(x);
        long before = threads.getThreadAllocatedBytes(self);
        for (int k = 0; k < 20; k++) {
            useAll(x);
        }
        long made = threads.getThreadAllocatedBytes(self) - before;
        Check.due("made " + made + " bytes in calls", true, () -> made < 2000);
    }

    private static void useAll(TiedFrame x) {
        x.frame(2, 8);
        x.into(1, 1);
        x.fold(1, true);
        x.table(15, 0, 15);
        x.vat(0, 100);
        x.tie(0, 1, 2);
        x.untie(0, 1, 1);
        x.bath(0);
        x.want(0, 1, 1);
        x.plan(1);
        x.best(4);
        x.dye();
        x.slip(0, -1, 1);
        x.blurred();
        x.law(1, 1, 1);
        x.rank(3);
        x.count(3);
        x.kept(0);
        x.bits(0, 0);
        x.seen(0, 0);
        x.colour(0, 0);
        x.bound(0, 0);
    }
}
