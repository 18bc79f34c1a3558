import java.io.IOException;
import java.lang.reflect.Method;
import java.nio.file.Files;
import java.nio.file.Path;
import java.util.Arrays;
import java.util.TreeSet;
import java.util.regex.Matcher;
import java.util.regex.Pattern;

/** The run of calls that README.md shows answers what stands behind each call, and shows every act. */
final class ReadmeTest {
    private static final Pattern CALL = Pattern.compile("^room\\.(\\w+)\\(([^)]*)\\);\\s*// (-?\\d+)");

    private ReadmeTest() {
    }

    public static void main(String[] args) throws IOException, ReflectiveOperationException {
        PartRoom room = new PartRoom();
        TreeSet<String> shown = new TreeSet<>();
        for (String line : Files.readAllLines(Path.of("README.md"))) {
            Matcher m = CALL.matcher(line);
            if (m.find()) {
                shown.add(m.group(1));
                Due.is(line, call(room, m.group(1), numbers(m.group(2))), Integer.parseInt(m.group(3)));
            } else {
                Due.isTrue("a call with its answer: " + line, !line.startsWith("room."));
            }
        }
        TreeSet<String> acts = new TreeSet<>();
        for (Method m : PartRoom.class.getMethods()) {
            if (m.getDeclaringClass() == PartRoom.class) {
                acts.add(m.getName());
            }
        }
        Due.isTrue("every act is shown: " + shown, shown.equals(acts));
        Due.end();
    }

    private static int[] numbers(String list) {
        return Arrays.stream(list.split(",")).map(String::trim).mapToInt(Integer::parseInt).toArray();
    }

    private static int call(PartRoom room, String name, int[] numbers) throws ReflectiveOperationException {
        Class<?>[] types = new Class<?>[numbers.length];
        Arrays.fill(types, int.class);
        Object[] boxed = Arrays.stream(numbers).boxed().toArray();
        return (Integer) PartRoom.class.getMethod(name, types).invoke(room, boxed);
    }
}
