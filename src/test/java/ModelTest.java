import java.lang.reflect.Method;
import java.util.ArrayList;
import java.util.HashMap;
import java.util.List;
import java.util.Map;
import java.util.Random;
import java.util.TreeSet;

/** All promises: long runs of drawn calls, each answer beside the one of the plain Model. */
final class ModelTest {
    private static final int CALLS = 512;
    private static final int[] ODD = {-1, Integer.MIN_VALUE, Integer.MAX_VALUE, 40, 41, 61, 100, -12, -8};

    private final Random dice;
    private final int most;
    private final Map<String, Method> methods = new HashMap<>();
    private final PartRoom room = new PartRoom();
    private final Model model = new Model();
    private final List<String> story = new ArrayList<>();

    private ModelTest(long seed, int most) {
        dice = new Random(seed);
        this.most = most;
        for (Method m : PartRoom.class.getDeclaredMethods()) {
            if (java.lang.reflect.Modifier.isPublic(m.getModifiers())) {
                methods.put(m.getName(), m);
            }
        }
    }

    public static void main(String[] args) throws ReflectiveOperationException {
        int runs = args.length > 0 ? Integer.parseInt(args[0]) : 120;
        for (int seed = 0; seed < runs && Due.wrongSoFar() == 0; seed++) {
            int most = seed % 3 == 2 ? 40 : seed % 3 == 1 ? 20 : 10;
            new ModelTest(seed, most).run();
        }
        Due.end();
    }

    private void run() throws ReflectiveOperationException {
        int bars = 1 + dice.nextInt(most);
        int voices = 1 + dice.nextInt(6);
        for (int i = 0; i < bars; i++) {
            call("bar", 1 + dice.nextInt(dice.nextBoolean() ? 6 : 60));
        }
        for (int i = 0; i < voices; i++) {
            int kind = dice.nextInt(3);
            call("voice", kind, kind == 2 ? dice.nextInt(23) - 11 : 0);
        }
        int density = 1 + dice.nextInt(9);
        for (int b = 0; b < bars; b++) {
            int v = dice.nextInt(voices);
            if (dice.nextInt(10) < density) {
                call("notes", v, b, 1 + dice.nextInt(16), dice.nextInt(10));
            }
        }
        String[] names = new TreeSet<>(methods.keySet()).toArray(new String[0]);
        while (story.size() < CALLS && Due.wrongSoFar() == 0) {
            step(names[dice.nextInt(names.length)]);
        }
    }

    private void step(String name) throws ReflectiveOperationException {
        if (name.equals("bar") && dice.nextInt(8) > 0 || name.equals("cut") && dice.nextInt(3) > 0) {
            return;
        }
        if (name.equals("check") && dice.nextBoolean()) {
            tellPart();
            return;
        }
        int[] a = new int[methods.get(name).getParameterCount()];
        for (int i = 0; i < a.length; i++) {
            a[i] = dice.nextInt(60) == 0 ? ODD[dice.nextInt(ODD.length)] : likely(name, i);
        }
        if (name.equals("notes") && a[2] == 0) {
            a[3] = dice.nextInt(10) == 0 ? 1 : 0;
        }
        if (name.equals("voice") && a[0] != 2) {
            a[1] = dice.nextInt(10) == 0 ? 1 : 0;
        }
        if (name.equals("cut") && dice.nextInt(5) > 0) {
            a[1] = Math.max(a[0], Math.min(model.call("count", new int[] {0}) - 1, a[0]) + dice.nextInt(3));
        }
        call(name, a);
    }

    private int likely(String name, int i) {
        switch (name + i) {
            case "bar0":
                return dice.nextInt(62);
            case "voice0":
                return dice.nextInt(4);
            case "voice1":
                return dice.nextInt(25) - 12;
            case "as1":
                return dice.nextInt(4) - (dice.nextInt(10) == 0 ? 1 : 0);
            case "notes1":
            case "sign0":
            case "cut0":
            case "cut1":
            case "cue1":
                return dice.nextInt(Math.max(1, model.call("count", new int[] {0}) + dice.nextInt(2)));
            case "notes2":
                return dice.nextInt(3) == 0 ? 0 : dice.nextInt(17);
            case "notes3":
                return dice.nextInt(10);
            case "sign1":
                return dice.nextInt(3) == 0 ? dice.nextInt(9) : dice.nextInt(4);
            case "cut2":
            case "stage1":
            case "pages1":
                return dice.nextInt(20) == 0 ? 2 : dice.nextInt(2);
            case "rest1":
            case "page1":
            case "free1":
            case "systems1":
                return dice.nextInt(most > 20 ? 8 : 4);
            case "key0":
                return dice.nextInt(17) - 8;
            case "due0":
                return dice.nextInt(dice.nextInt(3) == 0 ? 22 : 5);
            case "paper0":
                return 20 + dice.nextInt(dice.nextBoolean() ? 10 : 42);
            case "paper1":
                return dice.nextInt(dice.nextBoolean() ? 3 : 10);
            case "need0":
                return dice.nextInt(dice.nextBoolean() ? 12 : 63) - (dice.nextInt(20) == 0 ? 1 : 0);
            case "tell0":
                return dice.nextInt(34) - 17;
            case "count0":
            case "found0":
                return dice.nextInt(8) - 1;
            default:
                return dice.nextInt(model.voiceCount() + (dice.nextInt(12) == 0 ? 1 : 0));
        }
    }

    /** Tells a voice's part, now and then with one number off, too few, or too many; and checks it. */
    private void tellPart() throws ReflectiveOperationException {
        int voice = dice.nextInt(model.voiceCount());
        call("check", voice);
        List<Integer> part = model.partOf(voice);
        if (dice.nextInt(3) == 0) {
            part.add(dice.nextInt(5));
        }
        if (!part.isEmpty() && dice.nextInt(3) == 0) {
            int i = dice.nextInt(part.size());
            part.set(i, part.get(i) + dice.nextInt(3) - 1);
        }
        if (!part.isEmpty() && dice.nextInt(4) == 0) {
            part.remove(part.size() - 1);
        }
        if (story.size() + part.size() + 1 > CALLS) {
            return;
        }
        for (int v : part) {
            call("tell", v);
        }
        call("check", voice);
    }

    private void call(String name, int... a) throws ReflectiveOperationException {
        Object[] boxed = new Object[a.length];
        StringBuilder text = new StringBuilder(name).append('(');
        for (int i = 0; i < a.length; i++) {
            boxed[i] = a[i];
            text.append(i == 0 ? "" : ", ").append(a[i]);
        }
        text.append(')');
        story.add(text.toString());
        int want = model.call(name, a);
        int got = (Integer) methods.get(name).invoke(room, boxed);
        if (got != want) {
            System.out.println(String.join(" ", story));
        }
        Due.is(text.toString(), got, want);
    }
}
