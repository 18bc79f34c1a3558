/** What the tests of the project share: comparing answers and ending with the right exit code. */
final class Due {
    static final int LOW = -1000000;
    static final int BEYOND = -1000001;
    static final int NONE = -1000002;
    static final int STATE = -1000003;
    static final int FULL = -1000004;
    static final int KIND = -1000005;

    private static int wrong = 0;
    private static String sentence = "";

    private Due() {
    }

    /** One call with one of its arguments left open. */
    interface Act {
        int with(int x);
    }

    /** The document's sentence that the answers from here on are about. */
    static void says(String itsSentence) {
        sentence = "\"" + itsSentence + "\": ";
    }

    static void is(String call, long got, long want) {
        if (got != want) {
            wrong++;
            System.out.println(sentence + call + " answered " + got + ", due is " + want);
        }
    }

    static void isTrue(String what, boolean holds) {
        if (!holds) {
            wrong++;
            System.out.println(sentence + "does not hold: " + what);
        }
    }

    /** Both ends are taken; what lies right beyond them, or far away, is refused. */
    static void range(String call, int least, int most, Act act) {
        taken(call, act, least, most);
        refused(call, act, least - 1, most + 1, Integer.MIN_VALUE, Integer.MAX_VALUE,
                least + 256, least + 65536, least + (1 << 30), most - (1 << 30));
    }

    static void taken(String call, Act act, int... values) {
        for (int x : values) {
            int got = act.with(x);
            isTrue(call + " takes " + x + " (answered " + got + ")", got != BEYOND);
        }
    }

    static void refused(String call, Act act, int... values) {
        for (int x : values) {
            is(call + " with " + x, act.with(x), BEYOND);
        }
    }

    static int wrongSoFar() {
        return wrong;
    }

    static void end() {
        if (wrong > 0) {
            System.out.println(wrong + " answers are not as due");
            System.exit(1);
        }
        System.out.println("all answers are as due");
    }

    /** A room with one bar for each number of seconds. */
    static PartRoom roomWithBars(int... seconds) {
        PartRoom x = new PartRoom();
        for (int s : seconds) {
            x.bar(s);
        }
        return x;
    }

    /** A room with so many bars of one second. */
    static PartRoom roomOf(int bars) {
        PartRoom x = new PartRoom();
        for (int i = 0; i < bars; i++) {
            x.bar(1);
        }
        return x;
    }

    /** A room with so many bars of one second, and voices that are VOICE alone. */
    static PartRoom roomOf(int bars, int voices) {
        PartRoom x = roomOf(bars);
        for (int i = 0; i < voices; i++) {
            x.voice(0, 0);
        }
        return x;
    }

    /** Notes of voice 0, bar by bar from 0 on, with loudness 1 where it plays. */
    static void play(PartRoom x, int... notes) {
        for (int b = 0; b < notes.length; b++) {
            x.notes(0, b, notes[b], notes[b] > 0 ? 1 : 0);
        }
    }
}
