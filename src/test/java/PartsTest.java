/** Promises 9 to 13: rests, cues and keys. */
final class PartsTest {
    private PartsTest() {
    }

    public static void main(String[] args) {
        rests();
        restsWithCuts();
        cues();
        cueChoice();
        cuesWithCuts();
        keys();
        due();
        Due.end();
    }

    private static void rests() {
        PartRoom x = Due.roomOf(10);
        x.voice(0, 0);
        Due.is("all in one", x.rest(0, 0), 10);
        Due.is("no second", x.rest(0, 1), Due.NONE);
        Due.is("i MAX", x.rest(0, Integer.MAX_VALUE), Due.NONE);
        Due.is("i -1", x.rest(0, -1), Due.BEYOND);
        Due.is("no such voice", x.rest(1, 0), Due.BEYOND);
        Due.is("voice -1", x.rest(-1, 0), Due.BEYOND);
        x.notes(0, 4, 1, 0);
        Due.is("ahead of notes", x.rest(0, 0), 4);
        Due.is("behind notes", x.rest(0, 1), 505);
        x.sign(7, 1);
        Due.is("up to the sign", x.rest(0, 1), 502);
        Due.is("the sign alone", x.rest(0, 2), 701);
        Due.is("behind the sign", x.rest(0, 3), 802);
        x.sign(7, 2);
        Due.is("up to the letter", x.rest(0, 1), 502);
        Due.is("from the letter on", x.rest(0, 2), 703);
        Due.is("nothing behind", x.rest(0, 3), Due.NONE);
        x.sign(4, 1);
        Due.is("a sign at a bar with notes", x.rest(0, 1), 502);
        x.sign(0, 1);
        Due.is("a sign at the first bar", x.rest(0, 0), 1);
        Due.is("behind the first bar", x.rest(0, 1), 103);
        x.sign(9, 3);
        Due.is("sign and letter at the last bar", x.rest(0, 4), 901);
        for (int b = 0; b < 10; b++) {
            x.notes(0, b, 2, 2);
        }
        Due.is("a voice that always plays", x.rest(0, 0), Due.NONE);
        Due.is("no bars", voiceAlone().rest(0, 0), Due.NONE);
    }

    private static PartRoom voiceAlone() {
        PartRoom x = new PartRoom();
        x.voice(0, 0);
        return x;
    }

    private static void restsWithCuts() {
        PartRoom x = Due.roomOf(10);
        x.voice(0, 0);
        x.notes(0, 4, 1, 1);
        x.cut(3, 5, 1);
        Due.is("rests join over a cut", x.rest(0, 0), 7);
        x.sign(4, 5);
        Due.is("a sign that is cut parts nothing", x.rest(0, 0), 7);
        x.sign(4, 6);
        Due.is("a letter that is cut parts nothing", x.rest(0, 0), 7);
        x.sign(2, 1);
        Due.is("ahead of a sign", x.rest(0, 0), 2);
        Due.is("the sign ahead of a cut", x.rest(0, 1), 201);
        Due.is("behind sign and cut", x.rest(0, 2), 604);
        x.cut(0, 9, 1);
        Due.is("all is cut", x.rest(0, 0), Due.NONE);
        x.cut(9, 9, 0);
        Due.is("one bar is left", x.rest(0, 0), 901);
    }

    private static void cues() {
        PartRoom x = Due.roomOf(12);
        x.voice(0, 0);
        x.voice(0, 0);
        x.notes(0, 8, 1, 1);
        x.notes(1, 7, 1, 1);
        Due.is("8 bars ahead", x.cue(0, 8), 1);
        Due.is("it rests there", x.cue(0, 9), Due.NONE);
        Due.is("no such bar", x.cue(0, 12), Due.BEYOND);
        Due.is("bar -1", x.cue(0, -1), Due.BEYOND);
        Due.is("no such voice", x.cue(2, 0), Due.BEYOND);
        Due.is("voice -1", x.cue(-1, 0), Due.BEYOND);
        x.due(9);
        Due.is("there are no 9 bars ahead", x.cue(0, 8), Due.NONE);
        x.due(7);
        Due.is("more than the due bars", x.cue(0, 8), 1);
        x.notes(0, 1, 1, 1);
        Due.is("fewer than the due bars", x.cue(0, 8), Due.NONE);
        x.due(6);
        Due.is("just the due bars", x.cue(0, 8), 1);
        x.notes(1, 7, 1, 0);
        Due.is("notes without loudness", x.cue(0, 8), Due.NONE);
        x.notes(1, 6, 1, 2);
        Due.is("the second bar ahead", x.cue(0, 8), 1);
        x.notes(1, 6, 0, 0);
        x.notes(1, 5, 1, 9);
        Due.is("the third bar ahead isn't heard", x.cue(0, 8), Due.NONE);
        x.notes(1, 8, 1, 9);
        Due.is("the bar itself isn't heard", x.cue(0, 8), Due.NONE);
        Due.is("the first bar of all", x.cue(0, 0), Due.NONE);
        x.due(1);
        x.notes(1, 7, 0, 0);
        x.notes(1, 6, 1, 9);
        Due.is("with DUE 1 just one bar is heard", x.cue(0, 8), Due.NONE);
        x.notes(1, 7, 1, 1);
        Due.is("with DUE 1", x.cue(0, 8), 1);
        x.due(2);
        x.notes(1, 7, 0, 0);
        Due.is("with DUE 2 two bars are heard", x.cue(0, 8), 1);
        x.due(1);
        x.notes(0, 0, 1, 1);
        Due.is("nothing is ahead of the first bar", x.cue(0, 0), Due.NONE);
    }

    private static void cueChoice() {
        PartRoom x = Due.roomOf(3);
        for (int v = 0; v < 4; v++) {
            x.voice(0, 0);
        }
        x.due(2);
        x.notes(1, 2, 1, 1);
        x.notes(0, 0, 1, 2);
        x.notes(0, 1, 1, 3);
        x.notes(2, 1, 1, 5);
        x.notes(3, 0, 1, 5);
        Due.is("of several the least number", x.cue(1, 2), 0);
        x.notes(2, 0, 1, 1);
        Due.is("the two bars together", x.cue(1, 2), 2);
        x.stage(2, 0);
        Due.is("not of one that is off stage", x.cue(1, 2), 0);
        x.stage(0, 0);
        Due.is("the next one", x.cue(1, 2), 3);
        x.stage(3, 0);
        Due.is("nobody is on stage", x.cue(1, 2), Due.NONE);
        x.stage(2, 1);
        x.stage(1, 0);
        Due.is("the voice itself may be off stage", x.cue(1, 2), 2);
        x.stage(1, 1);
        x.stage(2, 0);
        Due.is("not of itself", x.cue(1, 2), Due.NONE);
    }

    private static void cuesWithCuts() {
        PartRoom x = Due.roomOf(8);
        x.voice(0, 0);
        x.voice(0, 0);
        x.due(3);
        x.notes(0, 7, 1, 1);
        x.notes(0, 5, 1, 1);
        x.notes(1, 3, 1, 4);
        Due.is("it played two bars ago", x.cue(0, 7), Due.NONE);
        x.cut(4, 6, 1);
        Due.is("the bars over the cut", x.cue(0, 7), 1);
        x.cut(3, 3, 1);
        Due.is("who is cut isn't heard", x.cue(0, 7), Due.NONE);
        x.notes(1, 1, 1, 4);
        Due.is("two bars ahead over the cut", x.cue(0, 7), 1);
        x.cut(1, 1, 1);
        Due.is("too few bars are left", x.cue(0, 7), Due.NONE);
        x.cut(0, 7, 0);
        x.cut(5, 5, 1);
        x.notes(1, 6, 1, 1);
        Due.is("a cue is there", x.cue(0, 7), 1);
        x.sign(6, 1);
        x.sign(4, 2);
        Due.is("signs and letters part no silence", x.cue(0, 7), 1);
        x.sign(7, 4);
        Due.is("the bar itself is cut", x.cue(0, 7), Due.NONE);
    }

    private static void keys() {
        PartRoom x = new PartRoom();
        Due.is("key(-7)", x.key(-7), 0);
        Due.is("key(7)", x.key(7), -7);
        Due.is("key(8)", x.key(8), Due.BEYOND);
        Due.is("key(-8)", x.key(-8), Due.BEYOND);
        Due.is("findings changed nothing", x.key(0), 7);
        x.voice(0, 0);
        x.voice(2, 0);
        x.voice(2, 6);
        x.voice(2, 2);
        x.voice(2, -3);
        Due.is("written(5)", x.written(5), Due.BEYOND);
        Due.is("written(-1)", x.written(-1), Due.BEYOND);
        Due.is("key 0 shift 6: of -6 and 6 the one below", x.written(2), -6);
        Due.is("key 0 shift 2", x.written(3), 2);
        Due.is("key 0 shift -3", x.written(4), 3);
        x.key(6);
        Due.is("key 6, no shift", x.written(0), -6);
        x.key(-6);
        Due.is("key -6, no shift", x.written(0), -6);
        x.key(7);
        Due.is("key 7, no shift", x.written(0), -5);
        x.key(-7);
        Due.is("key -7, no shift", x.written(1), 5);
        x.key(5);
        Due.is("key 5, no shift", x.written(1), 5);
        allKeys();
    }

    private static void allKeys() {
        for (int shift = -11; shift <= 11; shift++) {
            PartRoom x = new PartRoom();
            x.voice(2, shift);
            for (int key = -7; key <= 7; key++) {
                x.key(key);
                Due.is("written, key " + key + " shift " + shift, x.written(0), nearest(key + 7 * shift));
            }
        }
    }

    private static int nearest(int fifths) {
        int best = 1000;
        for (int k = -20; k <= 20; k++) {
            int here = fifths + 12 * k;
            if (Math.abs(here) < Math.abs(best) || Math.abs(here) == Math.abs(best) && here < best) {
                best = here;
            }
        }
        return best;
    }

    private static void due() {
        PartRoom x = new PartRoom();
        Due.is("due(1)", x.due(1), 8);
        Due.is("due(20)", x.due(20), 1);
        Due.is("due(0)", x.due(0), Due.BEYOND);
        Due.is("due(21)", x.due(21), Due.BEYOND);
        Due.is("findings changed nothing", x.due(8), 20);
    }
}
