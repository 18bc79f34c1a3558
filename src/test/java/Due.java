/** What the tests of the project share: comparing answers and ending with the right exit code. */
final class Due {
    static final int BEYOND = -1000001;
    static final int NONE = -1000002;
    static final int FULL = -1000004;
    static final int KIND = -1000005;

    private static int wrong = 0;

    private Due() {
    }

    static void is(String call, long got, long want) {
        if (got != want) {
            wrong++;
            System.out.println(call + " answered " + got + ", due is " + want);
        }
    }

    static void isTrue(String what, boolean holds) {
        if (!holds) {
            wrong++;
            System.out.println("does not hold: " + what);
        }
    }

    static int wrongSoFar() {
        return wrong;
    }

    static void end() {
        if (wrong > 0) {
            System.out.println(wrong + " answers are not as due");
            System.exit(1);
        }
        System.out.println("all answers are as due");
    }

    /** A room with one bar for each number of seconds. */
    static PartRoom roomWithBars(int... seconds) {
        PartRoom x = new PartRoom();
        for (int s : seconds) {
            x.bar(s);
        }
        return x;
    }

    /** A room with so many bars of one second. */
    static PartRoom roomOf(int bars) {
        PartRoom x = new PartRoom();
        for (int i = 0; i < bars; i++) {
            x.bar(1);
        }
        return x;
    }
}
