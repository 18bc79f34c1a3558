/** Promises 9 to 13 at their edges: each test bears the sentence that it would see broken. */
final class PartsEdgesTest {
    private PartsEdgesTest() {
    }

    public static void main(String[] args) {
        asManyAsCanBe();
        atASign();
        behindASign();
        atALetter();
        cutForRests();
        whichRests();
        dueAtLeast();
        dueAtFirst();
        dueAtTheBeginning();
        itPlaysThere();
        anotherVoice();
        onStage();
        twoBarsTogether();
        aboveNothing();
        dueOne();
        theLeastNumber();
        cutForCues();
        marksPartNoSilence();
        whichCue();
        keyRange();
        writtenNearest();
        writtenOfAll();
        writtenOfTwo();
        writtenOfWhom();
        dueRange();
        Due.end();
    }

    private static void asManyAsCanBe() {
        Due.says("BARS (not CUT) that follow one another in which it RESTS, as many as can be");
        PartRoom x = Due.roomOf(40, 1);
        Due.is("all forty", x.rest(0, 0), 40);
        Due.is("no more", x.rest(0, 1), Due.NONE);
        x.notes(0, 0, 1, 1);
        Due.is("all but the first", x.rest(0, 0), 139);
        x.notes(0, 39, 1, 1);
        Due.is("all but first and last", x.rest(0, 0), 138);
        for (int b = 1; b < 39; b++) {
            x.notes(0, b, b % 2, 0);
        }
        Due.is("every second one: the first", x.rest(0, 0), 201);
        Due.is("every second one: the last", x.rest(0, 18), 3801);
        Due.is("every second one: no more", x.rest(0, 19), Due.NONE);
        PartRoom one = Due.roomOf(1, 1);
        Due.is("a single bar", one.rest(0, 0), 1);
        one.notes(0, 0, 1, 0);
        Due.is("notes without loudness are no rest", one.rest(0, 0), Due.NONE);
    }

    private static void atASign() {
        Due.says("but a new one begins at a BAR with a SIGN");
        PartRoom x = Due.roomOf(4, 1);
        x.sign(3, 1);
        Due.is("ahead of the last bar", x.rest(0, 0), 3);
        Due.is("the last bar", x.rest(0, 1), 301);
        Due.is("nothing is behind it", x.rest(0, 2), Due.NONE);
        PartRoom all = Due.roomOf(40, 1);
        for (int b = 0; b < 40; b++) {
            all.sign(b, 1);
        }
        Due.is("a sign at each bar: the first", all.rest(0, 0), 1);
        Due.is("a sign at each bar: the last", all.rest(0, 39), 3901);
        Due.is("a sign at each bar: no more", all.rest(0, 40), Due.NONE);
    }

    private static void behindASign() {
        Due.says("at the BAR behind one with a SIGN");
        PartRoom x = Due.roomOf(4, 1);
        x.sign(0, 1);
        Due.is("the first bar", x.rest(0, 0), 1);
        Due.is("behind the first bar", x.rest(0, 1), 103);
        x.notes(0, 0, 1, 1);
        Due.is("a sign where it plays", x.rest(0, 0), 103);
        Due.is("no empty one", x.rest(0, 1), Due.NONE);
        x.notes(0, 0, 0, 0);
        x.notes(0, 1, 1, 1);
        Due.is("a sign ahead of notes", x.rest(0, 0), 1);
        Due.is("behind the notes", x.rest(0, 1), 202);
    }

    private static void atALetter() {
        Due.says("and at a BAR with a LETTER");
        PartRoom x = Due.roomOf(4, 1);
        x.sign(0, 2);
        Due.is("a letter at the first bar parts nothing", x.rest(0, 0), 4);
        x.sign(1, 2);
        Due.is("ahead of the letter", x.rest(0, 0), 1);
        Due.is("from the letter on, and not just it", x.rest(0, 1), 103);
        x.sign(1, 3);
        Due.is("sign and letter", x.rest(0, 1), 101);
        Due.is("behind both", x.rest(0, 2), 202);
        x.sign(1, 0);
        x.sign(3, 2);
        Due.is("ahead of the last bar", x.rest(0, 0), 3);
        Due.is("a letter at the last bar", x.rest(0, 1), 301);
    }

    private static void cutForRests() {
        Due.says("What is CUT isn't there for rests, cues, and pages: the BARS that aren't CUT follow one another");
        PartRoom x = Due.roomOf(6, 1);
        x.notes(0, 2, 1, 1);
        x.sign(2, 7);
        Due.is("notes, sign and letter of a bar that is CUT", x.rest(0, 0), 5);
        x.sign(1, 1);
        Due.is("the bar behind a sign, over a cut", x.rest(0, 2), 303);
        x.sign(1, 5);
        Due.is("two bars are CUT", x.rest(0, 0), 4);
        x.cut(0, 0, 1);
        Due.is("the first that isn't CUT", x.rest(0, 0), 303);
        x.cut(3, 5, 1);
        Due.is("all are CUT", x.rest(0, 0), Due.NONE);
    }

    private static void whichRests() {
        Due.says("BEYOND: there is no such VOICE, or i is below 0. NONE.");
        PartRoom x = Due.roomOf(3, 6);
        Due.range("rest(voice, 0)", 0, 5, v -> x.rest(v, 0));
        Due.refused("rest(0, i)", i -> x.rest(0, i), -1, -2, Integer.MIN_VALUE);
        Due.is("rest(0, 0)", x.rest(0, 0), 3);
        Due.is("rest(0, 1)", x.rest(0, 1), Due.NONE);
        Due.is("rest(0, MAX)", x.rest(0, Integer.MAX_VALUE), Due.NONE);
        Due.is("no bars", Due.roomOf(0, 1).rest(0, 0), Due.NONE);
    }

    /** Voice 0 plays in the last of so many bars alone; voice 1 is heard in all others. */
    private static PartRoom silence(int bars) {
        PartRoom x = Due.roomOf(bars, 2);
        for (int b = 0; b < bars - 1; b++) {
            x.notes(1, b, 1, 1);
        }
        x.notes(0, bars - 1, 1, 1);
        return x;
    }

    private static void dueAtLeast() {
        Due.says("and RESTS in the DUE BARS ahead of it (1 .. 20; 8 at first) at least");
        for (int due = 1; due <= 20; due++) {
            PartRoom x = silence(23);
            x.due(due);
            x.notes(0, 22 - due - 2, 1, 1);
            Due.is("one bar more than DUE " + due, x.cue(0, 22), 1);
            x.notes(0, 22 - due - 1, 1, 1);
            Due.is("just DUE " + due, x.cue(0, 22), 1);
            x.notes(0, 22 - due, 1, 1);
            Due.is("one bar less than DUE " + due, x.cue(0, 22), Due.NONE);
        }
    }

    private static void dueAtFirst() {
        Due.says("(1 .. 20; 8 at first)");
        PartRoom x = silence(12);
        x.notes(0, 2, 1, 1);
        Due.is("8 bars of rest", x.cue(0, 11), 1);
        x.notes(0, 3, 1, 1);
        Due.is("7 bars of rest", x.cue(0, 11), Due.NONE);
    }

    private static void dueAtTheBeginning() {
        Due.says("RESTS in the DUE BARS ahead of it (1 .. 20; 8 at first) at least");
        for (int due = 1; due <= 20; due++) {
            PartRoom just = silence(due + 1);
            just.due(due);
            Due.is("DUE " + due + " bars are ahead", just.cue(0, due), 1);
            PartRoom less = silence(due);
            less.due(due);
            Due.is("a bar less than DUE " + due + " is ahead", less.cue(0, due - 1), Due.NONE);
        }
    }

    private static void itPlaysThere() {
        Due.says("NONE: there is none (it RESTS there, it is CUT, ..).");
        PartRoom x = silence(10);
        Due.is("it plays", x.cue(0, 9), 1);
        Due.is("it RESTS", x.cue(0, 8), Due.NONE);
        x.cut(9, 9, 1);
        Due.is("it is CUT", x.cue(0, 9), Due.NONE);
        x.cut(9, 9, 0);
        x.notes(0, 9, 1, 0);
        Due.is("it plays without loudness", x.cue(0, 9), 1);
        x.notes(0, 9, 0, 0);
        Due.is("it RESTS now", x.cue(0, 9), Due.NONE);
    }

    private static void anotherVoice() {
        Due.says("there is a CUE of another VOICE that is ON STAGE");
        PartRoom alone = Due.roomOf(9, 1);
        alone.notes(0, 8, 16, 9);
        Due.is("no other voice", alone.cue(0, 8), Due.NONE);
        PartRoom six = Due.roomOf(9, 6);
        six.notes(5, 8, 1, 1);
        six.notes(4, 7, 1, 1);
        Due.is("the 5th for the 6th voice", six.cue(5, 8), 4);
        six.notes(0, 8, 1, 1);
        six.notes(4, 7, 0, 0);
        six.notes(5, 7, 1, 1);
        Due.is("the 6th for the 1st voice", six.cue(0, 8), 5);
    }

    private static void onStage() {
        Due.says("another VOICE that is ON STAGE");
        PartRoom x = Due.roomOf(9, 3);
        x.notes(0, 8, 1, 1);
        x.notes(1, 7, 1, 9);
        x.notes(2, 7, 1, 1);
        Due.is("both are", x.cue(0, 8), 1);
        x.stage(1, 0);
        Due.is("the louder one isn't", x.cue(0, 8), 2);
        x.stage(2, 0);
        Due.is("neither is", x.cue(0, 8), Due.NONE);
        x.stage(1, 1);
        Due.is("the louder one is again", x.cue(0, 8), 1);
        x.stage(0, 0);
        Due.is("it isn't asked of the voice itself", x.cue(0, 8), 1);
    }

    private static void twoBarsTogether() {
        Due.says("that with the most LOUDNESS in the two BARS ahead together");
        PartRoom x = Due.roomOf(9, 3);
        x.notes(0, 8, 1, 1);
        x.notes(1, 7, 1, 9);
        x.notes(2, 7, 1, 5);
        x.notes(2, 6, 1, 5);
        Due.is("5 and 5 above 9", x.cue(0, 8), 2);
        x.notes(1, 6, 1, 1);
        Due.is("9 and 1 as 5 and 5", x.cue(0, 8), 1);
        x.notes(1, 6, 1, 0);
        x.notes(1, 5, 1, 9);
        Due.is("the third bar isn't heard", x.cue(0, 8), 2);
        x.notes(1, 8, 1, 9);
        Due.is("nor the bar itself", x.cue(0, 8), 2);
        x.notes(1, 6, 1, 9);
        x.notes(2, 7, 1, 9);
        x.notes(2, 6, 1, 8);
        Due.is("9 and 9 above 9 and 8", x.cue(0, 8), 1);
        x.due(2);
        x.notes(1, 7, 0, 0);
        x.notes(2, 7, 1, 0);
        Due.is("with DUE 2 two bars, too", x.cue(0, 8), 1);
    }

    private static void aboveNothing() {
        Due.says("if that is above 0");
        PartRoom x = Due.roomOf(9, 2);
        x.notes(0, 8, 1, 1);
        Due.is("the other one RESTS", x.cue(0, 8), Due.NONE);
        x.notes(1, 7, 16, 0);
        x.notes(1, 6, 16, 0);
        Due.is("it plays without loudness", x.cue(0, 8), Due.NONE);
        x.notes(1, 6, 1, 1);
        Due.is("1 in the second bar", x.cue(0, 8), 1);
    }

    private static void dueOne() {
        Due.says("(with DUE 1: in the one)");
        PartRoom x = Due.roomOf(4, 3);
        x.due(1);
        x.notes(0, 3, 1, 1);
        x.notes(0, 1, 1, 1);
        x.notes(1, 1, 1, 9);
        Due.is("the second bar isn't heard", x.cue(0, 3), Due.NONE);
        x.notes(2, 2, 1, 1);
        Due.is("the one bar is", x.cue(0, 3), 2);
        x.notes(0, 0, 1, 1);
        Due.is("no bar is ahead of the first", x.cue(0, 0), Due.NONE);
    }

    private static void theLeastNumber() {
        Due.says("of several the least number");
        PartRoom x = Due.roomOf(9, 6);
        x.notes(2, 8, 1, 1);
        for (int v = 5; v >= 0; v--) {
            if (v != 2) {
                x.notes(v, 6 + v % 2, 1, 4);
                Due.is("from " + v + " on", x.cue(2, 8), v);
            }
        }
    }

    private static void cutForCues() {
        Due.says("What is CUT isn't there for .. cues");
        PartRoom x = Due.roomOf(6, 2);
        x.due(2);
        x.notes(0, 5, 1, 1);
        x.notes(0, 3, 1, 1);
        x.notes(1, 4, 1, 9);
        Due.is("it plays two bars ahead", x.cue(0, 5), Due.NONE);
        x.cut(3, 3, 1);
        Due.is("that bar is CUT", x.cue(0, 5), 1);
        x.cut(4, 4, 1);
        Due.is("who is heard is CUT", x.cue(0, 5), Due.NONE);
        x.notes(1, 1, 1, 1);
        Due.is("two bars ahead over the cut", x.cue(0, 5), 1);
        x.cut(1, 1, 1);
        x.notes(1, 0, 1, 1);
        Due.is("just two bars are left", x.cue(0, 5), 1);
        x.cut(2, 2, 1);
        Due.is("one bar is left", x.cue(0, 5), Due.NONE);
    }

    private static void marksPartNoSilence() {
        Due.says("RESTS in the DUE BARS ahead of it (1 .. 20; 8 at first) at least");
        PartRoom x = silence(9);
        for (int b = 0; b < 9; b++) {
            x.sign(b, 3);
        }
        Due.is("a sign and a letter at each bar", x.cue(0, 8), 1);
    }

    private static void whichCue() {
        Due.says("The VOICE whose CUE there is for a VOICE at a BAR. BEYOND.");
        PartRoom x = Due.roomOf(40, 6);
        Due.range("cue(voice, 0)", 0, 5, v -> x.cue(v, 0));
        Due.range("cue(0, bar)", 0, 39, b -> x.cue(0, b));
        PartRoom small = Due.roomOf(2, 1);
        Due.range("cue(voice, 0) of one", 0, 0, v -> small.cue(v, 0));
        Due.range("cue(0, bar) of two", 0, 1, b -> small.cue(0, b));
        PartRoom none = Due.roomOf(0, 1);
        Due.is("no bars", none.cue(0, 0), Due.BEYOND);
    }

    private static void keyRange() {
        Due.says("THE KEY: -7 .. 7 fifths (below 0: flats; 0 at first).");
        PartRoom x = new PartRoom();
        Due.is("at first", x.key(3), 0);
        Due.range("key(fifths)", -7, 7, f -> x.key(f));
        Due.is("the last that was taken", x.key(-7), 7);
        Due.is("what it was", x.key(0), -7);
    }

    private static void writtenNearest() {
        Due.says("that of KEY and 7 times its SHIFT, and any number of times 12, which is nearest to 0");
        int[][] want = {
            // KEY, SHIFT, WRITTEN KEY
            {7, 11, 0}, {7, -11, 2}, {-7, 11, -2}, {-7, -11, 0}, {0, 11, 5}, {0, -11, -5},
            {0, 1, -5}, {0, -1, 5}, {0, 2, 2}, {0, 0, 0}, {5, 0, 5}, {-5, 0, -5}, {7, 0, -5}, {-7, 0, 5},
        };
        for (int[] row : want) {
            PartRoom x = new PartRoom();
            x.voice(2, row[1]);
            x.key(row[0]);
            Due.is("KEY " + row[0] + ", SHIFT " + row[1], x.written(0), row[2]);
        }
        PartRoom x = new PartRoom();
        x.voice(0, 0);
        x.voice(1, 0);
        x.key(7);
        Due.is("KEY 7 of a VOICE", x.written(0), -5);
        Due.is("KEY 7 of a DESK", x.written(1), -5);
    }

    /** Every KEY with every SHIFT, looked for as the sentence tells it. */
    private static void writtenOfAll() {
        Due.says("that of KEY and 7 times its SHIFT, and any number of times 12, which is nearest to 0;"
                + " of two (-6 and 6) the one below 0.");
        for (int shift = -11; shift <= 11; shift++) {
            PartRoom x = new PartRoom();
            x.voice(2, shift);
            for (int key = -7; key <= 7; key++) {
                x.key(key);
                Due.is("KEY " + key + ", SHIFT " + shift, x.written(0), nearestToNothing(key + 7 * shift));
            }
        }
    }

    private static int nearestToNothing(int fifths) {
        int nearest = fifths;
        for (int times = -20; times <= 20; times++) {
            int other = fifths + 12 * times;
            boolean nearer = Math.abs(other) < Math.abs(nearest);
            if (nearer || Math.abs(other) == Math.abs(nearest) && other < 0) {
                nearest = other;
            }
        }
        return nearest;
    }

    private static void writtenOfTwo() {
        Due.says("of two (-6 and 6) the one below 0");
        int[][] pairs = {{6, 0}, {-6, 0}, {0, 6}, {0, -6}, {1, 11}, {-1, -11}, {5, -5}, {-5, 5}, {-1, 1}, {1, -1},
            {7, 5}, {-7, -5}};
        for (int[] pair : pairs) {
            PartRoom x = new PartRoom();
            x.voice(2, pair[1]);
            x.key(pair[0]);
            Due.is("KEY " + pair[0] + ", SHIFT " + pair[1], x.written(0), -6);
        }
    }

    private static void writtenOfWhom() {
        Due.says("WRITTEN KEY. BEYOND.");
        PartRoom x = Due.roomOf(0, 6);
        Due.range("written(voice)", 0, 5, v -> x.written(v));
        PartRoom one = Due.roomOf(0, 1);
        Due.range("written(voice) of one", 0, 0, v -> one.written(v));
        Due.is("no voices", new PartRoom().written(0), Due.BEYOND);
    }

    private static void dueRange() {
        Due.says("DUE: what it was. BEYOND.");
        PartRoom x = new PartRoom();
        Due.is("at first", x.due(3), 8);
        Due.range("due(bars)", 1, 20, d -> x.due(d));
        Due.is("the last that was taken", x.due(1), 20);
        Due.is("what it was", x.due(8), 1);
    }
}
