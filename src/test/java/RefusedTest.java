import java.lang.reflect.Method;
import java.lang.reflect.Modifier;
import java.util.ArrayList;
import java.util.HashMap;
import java.util.List;
import java.util.Map;

/** Calls that are refused, of all acts: what they answer first, and that they change nothing else. */
final class RefusedTest {
    private static final Map<String, Method> METHODS = new HashMap<>();
    private static final int FAR = Integer.MAX_VALUE;
    private static final int DEEP = Integer.MIN_VALUE;

    /** A room to refuse calls in; made anew for each of them. */
    private interface Maker {
        PartRoom make();
    }

    private RefusedTest() {
    }

    public static void main(String[] args) throws ReflectiveOperationException {
        for (Method m : PartRoom.class.getDeclaredMethods()) {
            if (Modifier.isPublic(m.getModifiers())) {
                METHODS.put(m.getName(), m);
            }
        }
        findingsInOrder();
        beyondChangesNothing();
        otherFindingsChangeNothing();
        fullChangesNothing();
        checkTakesTheNumbers();
        extremesEndInAnAnswer();
        Due.end();
    }

    private static int call(PartRoom x, String name, int... a) throws ReflectiveOperationException {
        Object[] boxed = new Object[a.length];
        for (int i = 0; i < a.length; i++) {
            boxed[i] = a[i];
        }
        return (Integer) METHODS.get(name).invoke(x, boxed);
    }

    /** Where two findings would do, the one that the promise names first is told, and just that one counted. */
    private static void findingsInOrder() throws ReflectiveOperationException {
        Due.says("Each act tells its findings in the order in which they are asked");
        Maker empty = () -> Due.roomOf(0, 1);
        for (String row : new String[] {
            "as 1 1", "as 0 3", "as -1 2", "rest 1 0", "rest 0 -1", "cue 1 0", "cue 0 0", "pages 1 0", "pages 0 2",
            "pages 0 -1", "page 1 0", "page 0 -1", "free 1 0", "free 0 -1", "systems 1 0", "systems 0 -1", "lay 1",
            "lay -1", "stale 1", "stale -1"}) {
            first(row, empty, Due.BEYOND);
        }
        for (String row : new String[] {
            "bar 0", "bar 61", "voice 3 0", "voice -1 0", "voice 0 1", "voice 1 -1", "voice 2 12"}) {
            first(row, RefusedTest::full, Due.BEYOND);
        }
        first("as 0 1", empty, Due.KIND);
        first("rest 0 0", empty, Due.NONE);
        first("pages 0 0", empty, Due.NONE);
        first("stale 0", empty, Due.NONE);
        first("bar 1", RefusedTest::full, Due.FULL);
        first("voice 2 11", RefusedTest::full, Due.FULL);
    }

    private static void first(String row, Maker maker, int finding) throws ReflectiveOperationException {
        PartRoom x = maker.make();
        Due.is(row, call(x, nameOf(row), numbersOf(row)), finding);
        for (int k = 1; k <= 5; k++) {
            Due.is(row + ", then found(" + k + ")", x.found(k), Due.LOW - finding == k ? 1 : 0);
        }
    }

    private static String nameOf(String row) {
        return row.split(" ")[0];
    }

    private static int[] numbersOf(String row) {
        String[] words = row.split(" ");
        int[] numbers = new int[words.length - 1];
        for (int i = 0; i < numbers.length; i++) {
            numbers[i] = Integer.parseInt(words[i + 1]);
        }
        return numbers;
    }

    /** Twelve bars and a voice of each kind, with nothing in it as it was at first. */
    private static PartRoom rich() {
        PartRoom x = Due.roomWithBars(3, 1, 4, 1, 5, 9, 2, 6, 5, 3, 5, 8);
        x.voice(0, 0);
        x.voice(1, 0);
        x.voice(2, 5);
        Due.play(x, 16, 0, 0, 0, 7, 16, 0, 16, 2, 0, 0, 1);
        x.notes(1, 0, 9, 9);
        x.notes(1, 3, 5, 4);
        x.notes(1, 10, 16, 6);
        x.notes(2, 2, 5, 2);
        x.notes(2, 6, 5, 8);
        x.notes(2, 11, 5, 8);
        x.sign(2, 1);
        x.sign(6, 2);
        x.sign(9, 7);
        x.key(-4);
        x.due(2);
        x.paper(22, 2);
        x.need(7);
        x.lay(0);
        x.lay(2);
        x.stage(1, 0);
        x.notes(0, 4, 8, 1);
        x.tell(16);
        x.tell(-1);
        return x;
    }

    /** Forty bars, six voices, and forty numbers that wait. */
    private static PartRoom full() {
        PartRoom x = new PartRoom();
        for (int b = 0; b < 40; b++) {
            x.bar(1 + b);
            x.tell(b);
        }
        for (int v = 0; v < 6; v++) {
            x.voice(2, v - 3);
        }
        x.notes(0, 20, 7, 3);
        x.notes(1, 19, 3, 3);
        x.lay(0);
        return x;
    }

    /** What a room answers, but for found(): first what only looks, then what tells what was. */
    private static List<Integer> looks(PartRoom x, int voices) {
        List<Integer> told = new ArrayList<>();
        int bars = x.count(0);
        for (int what = 0; what <= 5; what++) {
            told.add(x.count(what));
        }
        for (int v = 0; v < voices; v++) {
            for (int i = 0; i < 6; i++) {
                told.add(x.rest(v, i));
                told.add(x.page(v, i));
                told.add(x.free(v, i));
                told.add(x.systems(v, i));
            }
            for (int b = 0; b < bars; b++) {
                told.add(x.cue(v, b));
            }
            told.add(x.as(v, 0));
            told.add(x.as(v, 1));
            told.add(x.written(v));
            told.add(x.pages(v, 1));
            told.add(x.stale(v));
        }
        told.add(x.check(0));
        told.add(x.key(0));
        told.add(x.due(8));
        told.add(x.need(5));
        for (int v = 0; v < voices; v++) {
            told.add(x.stage(v, 1));
            for (int b = 0; b < bars; b++) {
                told.add(x.notes(v, b, 0, 0));
            }
        }
        for (int b = 0; b < bars; b++) {
            told.add(x.sign(b, 0));
        }
        return told;
    }

    private static void changesNothing(String row, Maker maker, int voices, int finding)
            throws ReflectiveOperationException {
        PartRoom x = maker.make();
        PartRoom untouched = maker.make();
        Due.is(row, call(x, nameOf(row), numbersOf(row)), finding);
        for (int k = 1; k <= 5; k++) {
            int more = Due.LOW - finding == k ? 1 : 0;
            Due.is(row + ", then found(" + k + ")", x.found(k), untouched.found(k) + more);
        }
        Due.isTrue(row + " changes nothing", looks(x, voices).equals(looks(untouched, voices)));
    }

    private static void beyondChangesNothing() throws ReflectiveOperationException {
        Due.says("one that answers a finding changes nothing but what found() tells");
        for (String row : new String[] {
            "bar 0", "bar 61", "bar -1", "voice 3 0", "voice -1 0", "voice 0 1", "voice 1 1", "voice 2 12",
            "voice 2 -12", "as 3 0", "as -1 0", "as 0 3", "as 0 -1",
            "notes 3 0 1 1", "notes -1 0 1 1", "notes 0 12 1 1", "notes 0 -1 1 1", "notes 0 0 17 1", "notes 0 0 -1 0",
            "notes 0 0 1 10", "notes 0 0 1 -1", "notes 0 0 0 1", "notes 0 5 0 9",
            "sign 12 1", "sign -1 1", "sign 0 8", "sign 0 -1", "sign 9 8",
            "cut 12 12 1", "cut -1 3 1", "cut 0 12 1", "cut 3 2 1", "cut 0 11 2", "cut 0 11 -1", "cut 0 12 0",
            "stage 3 0", "stage -1 0", "stage 0 2", "stage 0 -1", "stage 1 2",
            "rest 3 0", "rest -1 0", "rest 0 -1", "cue 3 0", "cue -1 0", "cue 0 12", "cue 0 -1",
            "key 8", "key -8", "written 3", "written -1", "due 0", "due 21",
            "paper 20 4", "paper 61 4", "paper 40 0", "paper 40 9", "need -1", "need 61",
            "pages 3 0", "pages -1 0", "pages 0 2", "pages 0 -1", "page 3 0", "page -1 0", "page 0 -1",
            "free 3 0", "free -1 0", "free 0 -1", "systems 3 0", "systems -1 0", "systems 0 -1",
            "lay 3", "lay -1", "stale 3", "stale -1", "count 6", "count -1", "found 6", "found 0"}) {
            changesNothing(row, RefusedTest::rich, 3, Due.BEYOND);
        }
    }

    private static void otherFindingsChangeNothing() throws ReflectiveOperationException {
        Due.says("one that answers a finding changes nothing but what found() tells");
        for (String row : new String[] {"as 0 1", "as 0 2", "as 1 2", "as 2 1"}) {
            changesNothing(row, RefusedTest::rich, 3, Due.KIND);
        }
        for (String row : new String[] {
            "rest 0 40", "cue 0 1", "cue 0 9", "page 0 40", "free 0 40", "systems 0 40", "stale 1"}) {
            changesNothing(row, RefusedTest::rich, 3, Due.NONE);
        }
        Maker allCut = () -> {
            PartRoom x = rich();
            x.cut(0, 11, 1);
            return x;
        };
        for (String row : new String[] {
            "lay 0", "lay 1", "pages 0 0", "pages 0 1", "page 0 0", "free 0 0", "systems 0 0", "rest 0 0"}) {
            changesNothing(row, allCut, 3, Due.NONE);
        }
    }

    private static void fullChangesNothing() throws ReflectiveOperationException {
        Due.says("one that answers a finding changes nothing but what found() tells");
        changesNothing("bar 60", RefusedTest::full, 2, Due.FULL);
        changesNothing("voice 0 0", RefusedTest::full, 2, Due.FULL);
        changesNothing("tell 7", RefusedTest::full, 2, Due.FULL);
    }

    /** check() is the one act that changes something and is refused; it changes nothing else. */
    private static void checkTakesTheNumbers() {
        Due.says("BEYOND: there is no such VOICE (they are gone, too).");
        PartRoom x = rich();
        PartRoom untouched = rich();
        Due.is("check(3)", x.check(3), Due.BEYOND);
        Due.is("found(1)", x.found(1), untouched.found(1) + 1);
        untouched.check(0);
        Due.isTrue("check(3) leaves all but the numbers", looks(x, 3).equals(looks(untouched, 3)));
    }

    /** Each argument of each act at the ends of int, alone and with all others there. */
    private static void extremesEndInAnAnswer() throws ReflectiveOperationException {
        Due.says("BEYOND");
        Map<String, int[]> plain = new HashMap<>();
        for (String row : new String[] {
            "bar 1", "voice 2 0", "as 0 0", "notes 0 0 1 1", "sign 0 0", "cut 0 0 0", "stage 0 1", "rest 0 0",
            "cue 0 0", "key 0", "written 0", "due 8", "paper 40 4", "need 5", "pages 0 0", "page 0 0", "free 0 0",
            "systems 0 0", "lay 0", "stale 0", "check 0", "count 0", "found 1"}) {
            plain.put(nameOf(row), numbersOf(row));
        }
        Due.is("acts but tell()", plain.size(), METHODS.size() - 1);
        for (String name : plain.keySet()) {
            boolean counted = List.of("rest", "page", "free", "systems").contains(name);
            for (int i = 0; i < plain.get(name).length; i++) {
                for (int far : new int[] {DEEP, DEEP + 1, FAR - 1, FAR}) {
                    int[] a = plain.get(name).clone();
                    a[i] = far;
                    int want = counted && i == 1 && far > 0 ? Due.NONE : Due.BEYOND;
                    Due.is(name + ", argument " + i + " is " + far, call(rich(), name, a), want);
                }
            }
            for (int far : new int[] {DEEP, FAR}) {
                int[] a = plain.get(name).clone();
                java.util.Arrays.fill(a, far);
                Due.is(name + ", all arguments are " + far, call(rich(), name, a), Due.BEYOND);
                Due.is(name + ", all are " + far + ", no bars", call(new PartRoom(), name, a), Due.BEYOND);
            }
        }
    }
}
