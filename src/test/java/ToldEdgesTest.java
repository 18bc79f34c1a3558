/** Promises 22 to 25 at their edges: each test bears the sentence that it would see broken. */
final class ToldEdgesTest {
    private ToldEdgesTest() {
    }

    public static void main(String[] args) {
        fortyWait();
        anyNumberWaits();
        noneWaitThen();
        partOfRests();
        partOfNotes();
        firstThatIsNot();
        firstThatIsMissing();
        moreWereTold();
        nothingIsThePart();
        cutInThePart();
        checkRefused();
        counts();
        countsAtMost();
        countRefused();
        foundEach();
        foundRefused();
        Due.end();
    }

    private static void tellAll(PartRoom x, int... numbers) {
        for (int v : numbers) {
            x.tell(v);
        }
    }

    private static void fortyWait() {
        Due.says("One more number waits: how many. FULL: 40 wait.");
        PartRoom x = Due.roomOf(40, 1);
        for (int b = 0; b < 40; b++) {
            x.notes(0, b, 1, 1);
            Due.is("number " + b, x.tell(1), b + 1);
        }
        Due.is("the 41st", x.tell(1), Due.FULL);
        Due.is("the 42nd", x.tell(1), Due.FULL);
        Due.is("found(4)", x.found(4), 2);
        Due.is("40 wait", x.count(4), 40);
        Due.is("just 40 were told", x.check(0), 0);
        Due.is("one more waits", x.tell(1), 1);
    }

    private static void anyNumberWaits() {
        Due.says("One more number waits: how many.");
        PartRoom x = new PartRoom();
        int[] numbers = {0, -1, Integer.MIN_VALUE, Integer.MAX_VALUE, -1000001, 99};
        for (int i = 0; i < numbers.length; i++) {
            Due.is("tell(" + numbers[i] + ")", x.tell(numbers[i]), i + 1);
        }
    }

    private static void noneWaitThen() {
        Due.says("The numbers that wait (none do then) are the part of a VOICE");
        PartRoom x = Due.roomOf(1, 1);
        tellAll(x, -1);
        Due.is("as it is", x.check(0), 0);
        Due.is("none wait", x.count(4), 0);
        tellAll(x, 5, 6);
        Due.is("not as it is", x.check(0), 1);
        Due.is("none wait behind that", x.count(4), 0);
        tellAll(x, -1, 6);
        Due.is("too many", x.check(0), 99);
        Due.is("none wait behind that, too", x.count(4), 0);
        Due.is("what was told ahead is gone", x.check(0), 1);
    }

    private static void partOfRests() {
        Due.says("for each of its RESTS less how many BARS");
        PartRoom x = Due.roomOf(40, 1);
        tellAll(x, -40);
        Due.is("forty bars of rest", x.check(0), 0);
        tellAll(x, 40);
        Due.is("not forty NOTES", x.check(0), 1);
        x.sign(1, 1);
        x.sign(39, 2);
        tellAll(x, -1, -1, -37, -1);
        Due.is("up to a sign and a letter", x.check(0), 0);
    }

    private static void partOfNotes() {
        Due.says("for each BAR in which it plays its NOTES, in order");
        PartRoom x = Due.roomOf(5, 1);
        Due.play(x, 16, 0, 1, 1, 0);
        tellAll(x, 16, -1, 1, 1, -1);
        Due.is("as it is", x.check(0), 0);
        x.notes(0, 2, 1, 0);
        tellAll(x, 16, -1, 1, 1, -1);
        Due.is("without loudness, too", x.check(0), 0);
        tellAll(x, 16, -1, 2, -1);
        Due.is("not two bars in one", x.check(0), 3);
    }

    private static PartRoom alwaysPlays() {
        PartRoom x = Due.roomOf(40, 1);
        for (int b = 0; b < 40; b++) {
            x.notes(0, b, 1 + b % 16, 1);
        }
        return x;
    }

    private static void firstThatIsNot() {
        Due.says("1 and i for the first (from 0 on) that isn't, or is missing");
        PartRoom x = alwaysPlays();
        for (int wrong = 0; wrong < 40; wrong += 13) {
            for (int b = 0; b < 40; b++) {
                x.tell(b >= wrong ? 0 : 1 + b % 16);
            }
            Due.is("wrong from " + wrong + " on", x.check(0), 1 + wrong);
        }
        PartRoom two = Due.roomOf(2, 1);
        tellAll(two, 1, 2, 3);
        Due.is("that, and not that more were told", two.check(0), 1);
    }

    private static void firstThatIsMissing() {
        Due.says("1 and i for the first (from 0 on) that isn't, or is missing");
        PartRoom x = alwaysPlays();
        Due.is("all are missing", x.check(0), 1);
        tellAll(x, 1, 2);
        Due.is("two were told", x.check(0), 3);
        for (int b = 0; b < 39; b++) {
            x.tell(1 + b % 16);
        }
        Due.is("the last is missing", x.check(0), 40);
        tellAll(x, 1, 3);
        Due.is("one isn't, ahead of the missing ones", x.check(0), 2);
    }

    private static void moreWereTold() {
        Due.says("99 if more were told");
        PartRoom x = alwaysPlays();
        x.cut(39, 39, 1);
        for (int b = 0; b < 40; b++) {
            x.tell(1 + b % 16);
        }
        Due.is("40 of 39", x.check(0), 99);
        PartRoom one = Due.roomOf(1, 1);
        tellAll(one, -1, 0);
        Due.is("a 0 is more, too", one.check(0), 99);
    }

    private static void nothingIsThePart() {
        Due.says("0 if they are");
        PartRoom none = Due.roomOf(0, 1);
        Due.is("no bars, nothing told", none.check(0), 0);
        tellAll(none, 0);
        Due.is("no bars, and a number", none.check(0), 99);
        PartRoom x = Due.roomOf(2, 1);
        x.cut(0, 1, 1);
        Due.is("all CUT, nothing told", x.check(0), 0);
        tellAll(x, -2);
        Due.is("all CUT, and a number", x.check(0), 99);
    }

    private static void cutInThePart() {
        Due.says("What is CUT isn't there for rests");
        PartRoom x = Due.roomOf(4, 1);
        Due.play(x, 0, 3, 0, 4);
        x.cut(1, 1, 1);
        tellAll(x, -2, 4);
        Due.is("rests join over a cut", x.check(0), 0);
        x.cut(3, 3, 1);
        tellAll(x, -2);
        Due.is("notes that are CUT", x.check(0), 0);
    }

    private static void checkRefused() {
        Due.says("BEYOND: there is no such VOICE (they are gone, too).");
        PartRoom x = Due.roomOf(1, 6);
        Due.range("check(voice)", 0, 5, v -> x.check(v));
        for (int voice : new int[] {6, -1, Integer.MIN_VALUE, Integer.MAX_VALUE}) {
            tellAll(x, -1, 7);
            Due.is("check(" + voice + ")", x.check(voice), Due.BEYOND);
            Due.is("they are gone", x.count(4), 0);
        }
        tellAll(x, -1);
        Due.is("what is told behind that stands alone", x.check(0), 0);
        for (int i = 0; i < 40; i++) {
            x.tell(i);
        }
        x.check(6);
        Due.is("forty are gone, too", x.tell(1), 1);
    }

    private static void counts() {
        Due.says("0 BARS, 1 VOICES, 2 BARS that are CUT, 3 SECONDS of those that aren't, 4 numbers that wait,"
                + " 5 VOICES that are LAID");
        PartRoom x = Due.roomWithBars(1, 10, 60);
        x.voice(0, 0);
        x.voice(0, 0);
        x.cut(1, 1, 1);
        tellAll(x, 0, 0, 0, 0);
        x.lay(1);
        int[] want = {3, 2, 1, 61, 4, 1};
        for (int what = 0; what <= 5; what++) {
            Due.is("count(" + what + ")", x.count(what), want[what]);
        }
        x.cut(0, 2, 1);
        Due.is("no SECONDS where all are CUT", x.count(3), 0);
        Due.is("all are CUT", x.count(2), 3);
        x.lay(1);
        Due.is("a VOICE stays LAID", x.count(5), 1);
    }

    private static void countsAtMost() {
        Due.says("0 BARS, 1 VOICES, 2 BARS that are CUT, 3 SECONDS of those that aren't");
        PartRoom x = new PartRoom();
        for (int b = 0; b < 40; b++) {
            x.bar(60);
            x.tell(b);
        }
        for (int v = 0; v < 6; v++) {
            x.voice(0, 0);
            x.lay(v);
            x.lay(v);
        }
        int[] want = {40, 6, 0, 2400, 40, 6};
        for (int what = 0; what <= 5; what++) {
            Due.is("count(" + what + ")", x.count(what), want[what]);
        }
        x.cut(0, 39, 1);
        Due.is("forty are CUT", x.count(2), 40);
    }

    private static void countRefused() {
        Due.says("BEYOND: another what.");
        PartRoom x = new PartRoom();
        Due.range("count(what)", 0, 5, what -> x.count(what));
    }

    private static void foundEach() {
        Due.says("How many acts have answered a finding LOW - k (k 1 .. 5)");
        PartRoom x = Due.roomOf(1, 6);
        x.bar(0);
        x.stale(0);
        x.rest(0, 1);
        x.voice(0, 0);
        x.voice(0, 0);
        x.voice(0, 0);
        for (int i = 0; i < 4; i++) {
            x.as(0, 1);
        }
        int[] want = {0, 1, 2, 0, 3, 4};
        for (int round = 0; round < 2; round++) {
            for (int k = 1; k <= 5; k++) {
                Due.is("found(" + k + ")", x.found(k), want[k]);
            }
        }
    }

    private static void foundRefused() {
        Due.says("BEYOND: another k (counted, too).");
        PartRoom x = new PartRoom();
        int[] others = {0, 6, -1, 7, Integer.MIN_VALUE, Integer.MAX_VALUE, 1 << 16, Due.LOW - 1};
        for (int i = 0; i < others.length; i++) {
            Due.is("found(" + others[i] + ")", x.found(others[i]), Due.BEYOND);
            Due.is("it is counted", x.found(1), i + 1);
        }
        Due.range("found(k)", 1, 5, k -> x.found(k));
    }
}
