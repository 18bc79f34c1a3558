import java.io.IOException;
import java.lang.management.ManagementFactory;
import java.lang.reflect.Constructor;
import java.lang.reflect.Field;
import java.lang.reflect.Method;
import java.lang.reflect.Modifier;
import java.nio.file.Files;
import java.nio.file.Path;
import java.util.Arrays;
import java.util.List;
import java.util.TreeSet;
import java.util.regex.Pattern;

/** The public face, the rules of LANGUAGE.md that can be looked up, and what a run makes. */
final class FaceTest {
    private static final Path SOURCE = Path.of("src/main/java/PartRoom.java");

    private static final List<String> FACE = List.of(
            "bar 1", "voice 2", "as 2", "notes 4", "sign 2", "cut 3", "stage 2",
            "rest 2", "cue 2", "key 1", "written 1", "due 1",
            "paper 2", "need 1", "pages 2", "page 2", "free 2", "systems 2", "lay 1", "stale 1",
            "tell 1", "check 1", "count 1", "found 1");

    private FaceTest() {
    }

    public static void main(String[] args) throws IOException {
        face();
        members();
        words();
        roomOfOneRun();
        Due.end();
    }

    private static void face() {
        Class<?> c = PartRoom.class;
        Due.isTrue("the class is public and final",
                Modifier.isPublic(c.getModifiers()) && Modifier.isFinal(c.getModifiers()));
        Constructor<?>[] made = c.getDeclaredConstructors();
        Due.isTrue("one public constructor without parameters",
                made.length == 1 && made[0].getParameterCount() == 0 && Modifier.isPublic(made[0].getModifiers()));
        TreeSet<String> open = new TreeSet<>();
        for (Method m : c.getDeclaredMethods()) {
            if (!Modifier.isPrivate(m.getModifiers())) {
                open.add(m.getName() + " " + m.getParameterCount());
                Due.isTrue(m + " answers an int", m.getReturnType() == int.class);
                Due.isTrue(m + " takes ints", Arrays.stream(m.getParameterTypes()).allMatch(t -> t == int.class));
            }
        }
        Due.isTrue("the methods are the document's: " + open, open.equals(new TreeSet<>(FACE)));
    }

    private static void members() {
        TreeSet<String> names = new TreeSet<>();
        for (String line : FACE) {
            names.add(line.substring(0, line.indexOf(' ')));
        }
        Class<?>[] inside = PartRoom.class.getDeclaredClasses();
        Due.isTrue("at most twelve classes", inside.length <= 11);
        for (Class<?> c : inside) {
            Due.isTrue(c + " is static", Modifier.isStatic(c.getModifiers()));
            Due.isTrue(c + " isn't open", (c.getModifiers() & (Modifier.PUBLIC | Modifier.PROTECTED)) == 0);
            look(c, names);
        }
        look(PartRoom.class, names);
        for (Field f : PartRoom.class.getDeclaredFields()) {
            Due.isTrue(f + " is private", Modifier.isPrivate(f.getModifiers()));
        }
    }

    private static void look(Class<?> c, TreeSet<String> names) {
        int fields = 0;
        for (Field f : c.getDeclaredFields()) {
            boolean isStatic = Modifier.isStatic(f.getModifiers());
            Due.isTrue(f + " is no changing static", !isStatic || Modifier.isFinal(f.getModifiers()));
            fields += isStatic ? 0 : 1;
        }
        Due.isTrue(c + " has some twenty fields at most", fields <= 20);
        for (Method m : c.getDeclaredMethods()) {
            Due.isTrue(m + " has at most seven parameters", m.getParameterCount() <= 7);
            boolean ofTheFace = c == PartRoom.class && Modifier.isPublic(m.getModifiers());
            Due.isTrue(m + " bears a name of the face", ofTheFace || !names.contains(m.getName()));
        }
    }

    private static void words() throws IOException {
        String code = Files.readString(SOURCE)
                .replaceAll("(?s)/\\*.*?\\*/", " ")
                .replaceAll("//[^\n]*", " ");
        for (String word : List.of("throw", "throws", "try", "catch", "synchronized", "assert", "import", "package",
                "Object")) {
            Due.isTrue("no " + word, !Pattern.compile("\\b" + word + "\\b").matcher(code).find());
        }
        Due.isTrue("none of those that end in Exact", !code.contains("Exact("));
        Due.isTrue("no lambda", !code.contains("->"));
        Due.isTrue("no method reference", !code.contains("::"));
        Due.isTrue("plain letters alone", code.chars().allMatch(ch -> ch < 128));
    }

    /** All rows are made with the object and its voices: the calls make nothing. */
    private static void roomOfOneRun() {
        com.sun.management.ThreadMXBean threads = (com.sun.management.ThreadMXBean) ManagementFactory.getThreadMXBean();
        dearRun(threads);
        long bytes = dearRun(threads);
        Due.isTrue("calls on a full room make nothing: " + bytes + " bytes", bytes < 4096);
    }

    private static long dearRun(com.sun.management.ThreadMXBean threads) {
        PartRoom x = Due.roomOf(40);
        for (int v = 0; v < 6; v++) {
            x.voice(0, 0);
        }
        long before = threads.getCurrentThreadAllocatedBytes();
        for (int i = 0; i < 400; i++) {
            x.notes(i % 6, i % 40, 1 + i % 16, i % 10);
            x.pages(i % 6, 0);
            x.page(i % 6, 1);
            x.free(i % 6, 1);
            x.systems(i % 6, 1);
            x.lay(i % 6);
            x.stale(i % 6);
            x.rest(i % 6, 1);
            x.cue(i % 6, i % 40);
            x.tell(i);
            x.check(i % 6);
            x.cut(i % 40, i % 40, i % 2);
        }
        return threads.getCurrentThreadAllocatedBytes() - before;
    }
}
