/** Promises 1 to 8 at their edges: each test bears the sentence that it would see broken. */
final class ScoreEdgesTest {
    private ScoreEdgesTest() {
    }

    public static void main(String[] args) {
        atMost512Calls();
        numbersOfFindings();
        noBarsNoVoices();
        fortyBars();
        secondsOfBars();
        neitherAtFirst();
        sixVoices();
        kindsOfVoices();
        shiftOfMovers();
        shiftOfOthers();
        asOneOfAKind();
        asRefused();
        notesFromNoneTo16();
        noneAtFirst();
        loudFromNoneTo9();
        loudOfRests();
        notesOfWhomAndWhere();
        bitsOfSigns();
        signsOfWhichBar();
        cutFromAndTo();
        cutBackwards();
        cutOrNot();
        cutsThatChange();
        stageOrNot();
        Due.end();
    }

    private static void atMost512Calls() {
        Due.says("An object is used for at most 512 calls after it has been made");
        PartRoom x = new PartRoom();
        for (int i = 0; i < 511; i++) {
            x.found(6);
        }
        Due.is("the 512th call, found(1)", x.found(1), 511);
    }

    private static void numbersOfFindings() {
        Due.says("LOW is -1000000; LOW - 1 BEYOND, LOW - 2 NONE, LOW - 3 STATE, LOW - 4 FULL, LOW - 5 KIND");
        PartRoom x = Due.roomOf(0, 6);
        Due.is("bar(0)", x.bar(0), -1000001);
        Due.is("stale(0)", x.stale(0), -1000002);
        Due.is("voice(0, 0)", x.voice(0, 0), -1000004);
        Due.is("as(0, 1)", x.as(0, 1), -1000005);
        Due.is("no act answers STATE", x.found(3), 0);
    }

    private static void noBarsNoVoices() {
        Due.says("No BARS, no VOICES.");
        PartRoom x = new PartRoom();
        Due.is("count(0)", x.count(0), 0);
        Due.is("count(1)", x.count(1), 0);
        Due.is("written(0)", x.written(0), Due.BEYOND);
        Due.is("sign(0, 0)", x.sign(0, 0), Due.BEYOND);
        Due.is("cut(0, 0, 0)", x.cut(0, 0, 0), Due.BEYOND);
        Due.is("bar(1)", x.bar(1), 0);
        Due.is("voice(0, 0)", x.voice(0, 0), 0);
    }

    private static void fortyBars() {
        Due.says("BARS 0, 1, .. (at most 40)");
        PartRoom x = Due.roomOf(39);
        Due.is("the 40th bar", x.bar(60), 39);
        Due.is("the 41st bar", x.bar(60), Due.FULL);
        Due.is("and again", x.bar(60), Due.FULL);
        Due.is("count(0)", x.count(0), 40);
        Due.is("its seconds", x.count(3), 39 + 60);
        x.cut(0, 39, 1);
        Due.is("a bar that is CUT is a bar", x.bar(60), Due.FULL);
    }

    private static void secondsOfBars() {
        Due.says("BARS .. each have SECONDS (1 .. 60)");
        PartRoom x = new PartRoom();
        Due.range("bar(seconds)", 1, 60, s -> x.bar(s));
        Due.is("bars that came", x.count(0), 2);
        Due.is("their seconds", x.count(3), 61);
    }

    private static void neitherAtFirst() {
        Due.says("a SIGN or not, a LETTER or not (neither at first), and are CUT or not");
        PartRoom x = Due.roomOf(40);
        x.sign(0, 7);
        for (int b = 1; b < 40; b++) {
            Due.is("bits of bar " + b, x.sign(b, 0), 0);
        }
    }

    private static void sixVoices() {
        Due.says("VOICES 0, 1, .. (at most 6)");
        PartRoom x = Due.roomOf(0, 5);
        Due.is("the 6th voice", x.voice(2, 4), 5);
        Due.is("the 7th voice", x.voice(2, 5), Due.FULL);
        Due.is("and again", x.voice(0, 0), Due.FULL);
        Due.is("count(1)", x.count(1), 6);
        Due.is("the 6th stays as it was", x.as(5, 2), 4);
    }

    private static void kindsOfVoices() {
        Due.says("VOICES .. are of KINDS: 0 VOICE, 1 DESK under VOICE, 2 MOVER under VOICE");
        PartRoom x = new PartRoom();
        Due.range("voice(kind, 0)", 0, 2, k -> x.voice(k, 0));
        Due.is("voices that came", x.count(1), 2);
    }

    private static void shiftOfMovers() {
        Due.says("2 MOVER under VOICE, which has a SHIFT (-11 .. 11 half steps up");
        PartRoom x = new PartRoom();
        Due.range("voice(2, shift)", -11, 11, s -> x.voice(2, s));
        Due.is("as(0, 2)", x.as(0, 2), -11);
        Due.is("as(1, 2)", x.as(1, 2), 11);
        Due.is("voice(2, 0)", x.voice(2, 0), 2);
        Due.is("as(2, 2)", x.as(2, 2), 0);
    }

    private static void shiftOfOthers() {
        Due.says("of others 0");
        PartRoom x = new PartRoom();
        Due.range("voice(0, shift)", 0, 0, s -> x.voice(0, s));
        PartRoom y = new PartRoom();
        Due.range("voice(1, shift)", 0, 0, s -> y.voice(1, s));
        Due.refused("voice(0, shift)", s -> x.voice(0, s), -11, 11);
        Due.refused("voice(1, shift)", s -> y.voice(1, s), -11, 11);
        Due.is("SHIFT of a VOICE", x.as(0, 0), 0);
        Due.is("SHIFT of a DESK", y.as(0, 0), 0);
    }

    private static void asOneOfAKind() {
        Due.says("KIND: it isn't of that kind, nor of one under it.");
        PartRoom x = new PartRoom();
        x.voice(0, 0);
        x.voice(1, 0);
        x.voice(2, 7);
        int[][] want = {{0, Due.KIND, Due.KIND}, {0, 0, Due.KIND}, {7, Due.KIND, 7}};
        for (int v = 0; v < 3; v++) {
            for (int k = 0; k < 3; k++) {
                Due.is("as(" + v + ", " + k + ")", x.as(v, k), want[v][k]);
            }
        }
        Due.is("found(5)", x.found(5), 4);
    }

    private static void asRefused() {
        Due.says("BEYOND: there is no such one, or kind.");
        PartRoom x = Due.roomOf(0, 6);
        Due.range("as(voice, 0)", 0, 5, v -> x.as(v, 0));
        Due.range("as(0, kind)", 0, 2, k -> x.as(0, k));
        PartRoom none = new PartRoom();
        Due.refused("as(voice, 0) of no voices", v -> none.as(v, 0), -1, 0, 1);
    }

    private static void notesFromNoneTo16() {
        Due.says("In each BAR a VOICE has NOTES (0 .. 16");
        PartRoom x = Due.roomOf(1, 1);
        Due.range("notes(0, 0, notes, 0)", 0, 16, n -> x.notes(0, 0, n, 0));
        Due.is("the last that were taken", x.notes(0, 0, 1, 1), 16);
        Due.is("a single one", x.notes(0, 0, 0, 0), 1);
    }

    private static void noneAtFirst() {
        Due.says("0 at first: it RESTS");
        PartRoom x = Due.roomOf(2, 2);
        x.notes(0, 0, 5, 5);
        Due.is("the same voice, another bar", x.notes(0, 1, 3, 3), 0);
        Due.is("another voice, the same bar", x.notes(1, 0, 3, 3), 0);
        x.bar(1);
        Due.is("a bar that comes behind notes", x.notes(0, 2, 3, 3), 0);
        x.voice(0, 0);
        Due.is("a voice that comes behind notes", x.notes(2, 0, 3, 3), 0);
    }

    private static void loudFromNoneTo9() {
        Due.says("and a LOUDNESS (0 .. 9");
        PartRoom x = Due.roomOf(1, 1);
        Due.range("notes(0, 0, 16, loud)", 0, 9, l -> x.notes(0, 0, 16, l));
        Due.range("notes(0, 0, 1, loud)", 0, 9, l -> x.notes(0, 0, 1, l));
    }

    private static void loudOfRests() {
        Due.says("(with 0 NOTES loud is 0)");
        PartRoom x = Due.roomOf(1, 1);
        x.notes(0, 0, 4, 4);
        Due.refused("notes(0, 0, 0, loud)", l -> x.notes(0, 0, 0, l), 1, 9, -1, 10);
        Due.is("notes(0, 0, 0, 0)", x.notes(0, 0, 0, 0), 4);
    }

    private static void notesOfWhomAndWhere() {
        Due.says("BEYOND: there is no such VOICE, BAR, or notes, loud aren't as told");
        PartRoom x = Due.roomOf(40, 6);
        Due.range("notes(voice, 0, 1, 1)", 0, 5, v -> x.notes(v, 0, 1, 1));
        Due.range("notes(0, bar, 1, 1)", 0, 39, b -> x.notes(0, b, 1, 1));
        PartRoom small = Due.roomOf(3, 2);
        Due.range("notes(voice, 0, 1, 1) of two", 0, 1, v -> small.notes(v, 0, 1, 1));
        Due.range("notes(0, bar, 1, 1) of three", 0, 2, b -> small.notes(0, b, 1, 1));
        small.cut(1, 1, 1);
        Due.is("a bar that is CUT has notes, too", small.notes(0, 1, 2, 2), 0);
        Due.is("and keeps them", small.notes(0, 1, 3, 3), 2);
    }

    private static void bitsOfSigns() {
        Due.says("A BAR has a SIGN (bit 0), a LETTER (bit 1) of bits, is CUT (bit 2): what bits it had. BEYOND.");
        PartRoom x = Due.roomOf(1, 1);
        Due.range("sign(0, bits)", 0, 7, bits -> x.sign(0, bits));
        Due.is("the last that were taken", x.sign(0, 0), 7);
        for (int bits = 1; bits <= 7; bits++) {
            x.sign(0, bits);
            Due.is("cut bars with bits " + bits, x.count(2), bits / 4);
            Due.is("bits " + bits, x.sign(0, 0), bits);
        }
    }

    private static void signsOfWhichBar() {
        Due.says("A BAR has a SIGN (bit 0), a LETTER (bit 1) of bits, is CUT (bit 2): what bits it had. BEYOND.");
        PartRoom none = new PartRoom();
        Due.refused("sign(bar, 0) of no bars", b -> none.sign(b, 0), -1, 0, 1);
        PartRoom x = Due.roomOf(3);
        Due.range("sign(bar, 0) of three", 0, 2, b -> x.sign(b, 0));
        PartRoom full = Due.roomOf(40);
        Due.range("sign(bar, 0) of forty", 0, 39, b -> full.sign(b, 0));
    }

    private static void cutFromAndTo() {
        Due.says("BEYOND: there is no such BAR");
        PartRoom x = Due.roomOf(40);
        Due.range("cut(from, 39, 1)", 0, 39, from -> x.cut(from, 39, 1));
        Due.range("cut(0, to, 0)", 0, 39, to -> x.cut(0, to, 0));
        PartRoom small = Due.roomOf(3);
        Due.range("cut(from, 2, 1) of three", 0, 2, from -> small.cut(from, 2, 1));
        Due.range("cut(0, to, 1) of three", 0, 2, to -> small.cut(0, to, 1));
        Due.is("both beyond", small.cut(3, 3, 1), Due.BEYOND);
        PartRoom none = new PartRoom();
        Due.is("no bars", none.cut(0, 0, 1), Due.BEYOND);
    }

    private static void cutBackwards() {
        Due.says("from is above to");
        PartRoom x = Due.roomOf(5);
        Due.is("cut(2, 1, 1)", x.cut(2, 1, 1), Due.BEYOND);
        Due.is("cut(4, 0, 1)", x.cut(4, 0, 1), Due.BEYOND);
        Due.is("cut(2, 2, 1)", x.cut(2, 2, 1), 1);
        Due.is("cut(4, 4, 1)", x.cut(4, 4, 1), 1);
        Due.is("cut bars", x.count(2), 2);
    }

    private static void cutOrNot() {
        Due.says("or is isn't 0 or 1");
        PartRoom x = Due.roomOf(2);
        Due.range("cut(0, 1, is)", 0, 1, is -> x.cut(0, 1, is));
        Due.is("cut bars", x.count(2), 2);
    }

    private static void cutsThatChange() {
        Due.says("BARS from one to another one are CUT (1), or not (0): how many of them change.");
        PartRoom x = Due.roomOf(40);
        Due.is("none was cut", x.cut(0, 39, 0), 0);
        Due.is("all forty", x.cut(0, 39, 1), 40);
        Due.is("all are cut", x.cut(0, 39, 1), 0);
        Due.is("the last one", x.cut(39, 39, 0), 1);
        Due.is("the first one", x.cut(0, 0, 0), 1);
        Due.is("all but two", x.cut(0, 39, 0), 38);
        x.sign(7, 3);
        x.cut(7, 7, 1);
        Due.is("SIGN and LETTER stay", x.sign(7, 7), 7);
        x.cut(7, 7, 0);
        Due.is("and stay behind the cut", x.sign(7, 0), 3);
    }

    private static void stageOrNot() {
        Due.says("A VOICE is ON STAGE (1), or not (0): what it was. BEYOND.");
        PartRoom x = Due.roomOf(0, 6);
        for (int v = 0; v < 6; v++) {
            Due.is("at first it is, voice " + v, x.stage(v, 1), 1);
        }
        Due.range("stage(voice, 1)", 0, 5, v -> x.stage(v, 1));
        Due.range("stage(0, is)", 0, 1, is -> x.stage(0, is));
        Due.is("it was", x.stage(0, 0), 1);
        Due.is("it wasn't", x.stage(0, 0), 0);
        PartRoom none = new PartRoom();
        Due.is("no voices", none.stage(0, 1), Due.BEYOND);
    }
}
