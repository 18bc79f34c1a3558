/** Promises 14 to 19 at their edges: each test bears the sentence that it would see broken. */
final class PagesEdgesTest {
    private PagesEdgesTest() {
    }

    public static void main(String[] args) {
        paperRange();
        widthAtFirst();
        linesAtFirst();
        notWiderThanWidth();
        widthOfNotes();
        widthOfCues();
        cueToItsBar();
        cueOfTheFirstVoice();
        widthOfRests();
        restsOnTheNextPage();
        atMostLines();
        filledFromTheFirstBar();
        filledOnALaterPage();
        cutForPages();
        freeOfBothSides();
        freeUpToNotes();
        freeAtTheEnds();
        freeOverMarksAndCuts();
        badIfLess();
        needAtFirst();
        needOfADesk();
        needNothing();
        needRange();
        fewestBadTurns();
        fewestPages();
        firstPageFewestBars();
        thenTheSecond();
        noneWithoutBars();
        pagesRefused();
        pageRefused();
        freeRefused();
        systemsRefused();
        Due.end();
    }

    /** Bars of one second with these notes of voice 0, on paper of one line, with NEED 0. */
    private static PartRoom oneLine(int width, int... notes) {
        PartRoom x = Due.roomOf(notes.length, 1);
        Due.play(x, notes);
        x.paper(width, 1);
        x.need(0);
        return x;
    }

    private static int[] times(int bars, int notes) {
        int[] all = new int[bars];
        java.util.Arrays.fill(all, notes);
        return all;
    }

    private static void firstBars(String what, PartRoom x, int... bars) {
        Due.is(what + ": pages", x.pages(0, 0), bars.length);
        for (int i = 0; i < bars.length; i++) {
            Due.is(what + ": page " + i, x.page(0, i), bars[i]);
        }
        Due.is(what + ": no page behind", x.page(0, bars.length), Due.NONE);
    }

    private static void paperRange() {
        Due.says("WIDTH and LINES: 1. BEYOND.");
        PartRoom x = new PartRoom();
        Due.range("paper(width, 1)", 21, 60, w -> x.paper(w, 1));
        Due.range("paper(21, lines)", 1, 8, l -> x.paper(21, l));
        Due.is("paper(21, 1)", x.paper(21, 1), 1);
        Due.is("paper(60, 8)", x.paper(60, 8), 1);
        Due.is("both are beyond", x.paper(20, 9), Due.BEYOND);
        Due.is("they are not changed about", x.paper(8, 60), Due.BEYOND);
    }

    private static void widthAtFirst() {
        Due.says("WIDTH (21 .. 60; 40 at first)");
        PartRoom x = Due.roomOf(3, 1);
        Due.play(x, 16, 16, 2);
        Due.is("18, 18 and 4", x.systems(0, 0), 1);
        Due.play(x, 16, 16, 3);
        Due.is("18, 18 and 5", x.systems(0, 0), 2);
    }

    private static void linesAtFirst() {
        Due.says("LINES SYSTEMS (1 .. 8; 4 at first)");
        PartRoom x = Due.roomOf(8, 1);
        Due.play(x, times(8, 16));
        Due.is("pages of 4 systems", x.pages(0, 0), 1);
        Due.is("4 systems", x.systems(0, 0), 4);
        x.bar(1);
        x.notes(0, 8, 3, 1);
        Due.is("pages of 5 systems", x.pages(0, 0), 2);
    }

    private static void notWiderThanWidth() {
        Due.says("A SYSTEM is filled, BAR by BAR, as long as it is not wider than WIDTH");
        for (int width = 21; width <= 60; width++) {
            PartRoom x = new PartRoom();
            x.voice(0, 0);
            int left = width;
            int last = 0;
            while (left > 0) {
                last = left > 17 ? Math.min(15, left - 3) : left;
                x.notes(0, x.bar(1), last - 2, 1);
                left -= last;
            }
            x.paper(width, 8);
            Due.is("as wide as " + width, x.systems(0, 0), 1);
            x.notes(0, x.count(0) - 1, last - 1, 1);
            Due.is("wider than " + width, x.systems(0, 0), 2);
        }
    }

    private static void widthOfNotes() {
        Due.says("A BAR in which it plays is 2 and NOTES wide");
        Due.is("seven of 1 in 21", oneLine(21, times(7, 1)).pages(0, 0), 1);
        Due.is("eight of 1 in 21", oneLine(21, times(8, 1)).pages(0, 0), 2);
        Due.is("16 and 1 in 21", oneLine(21, 16, 1).pages(0, 0), 1);
        Due.is("16 and 2 in 21", oneLine(21, 16, 2).pages(0, 0), 2);
        PartRoom x = oneLine(21, 16, 1);
        x.notes(0, 0, 16, 0);
        Due.is("without loudness as wide", x.pages(0, 0), 1);
        x.notes(0, 1, 2, 0);
        Due.is("and no wider", x.pages(0, 0), 2);
    }

    /** A rest, and a bar of so many notes behind it for which voice 1 gives a CUE. */
    private static PartRoom withCue(int width, int... notes) {
        PartRoom x = oneLine(width, notes);
        x.voice(0, 0);
        x.due(1);
        x.notes(1, 0, 1, 1);
        return x;
    }

    private static void widthOfCues() {
        Due.says("with a CUE (to the BAR that it is for) 3 more");
        Due.is("4 and 21 in 25", withCue(25, 0, 16).pages(0, 0), 1);
        Due.is("4 and 21 in 24", withCue(24, 0, 16).pages(0, 0), 2);
        PartRoom x = withCue(22, 0, 16);
        x.stage(1, 0);
        Due.is("4 and 18 in 22", x.pages(0, 0), 1);
        x.paper(21, 1);
        Due.is("4 and 18 in 21", x.pages(0, 0), 2);
        x.stage(1, 1);
        Due.is("the widest BAR fills the least WIDTH", x.pages(0, 0), 2);
        Due.is("in a system of its own", x.systems(0, 1), 1);
    }

    private static void cueToItsBar() {
        Due.says("with a CUE (to the BAR that it is for) 3 more");
        firstBars("4, 20 and 3 in 22", withCue(22, 0, 15, 1), 0, 1, 2);
        firstBars("4, 20 and 3 in 23", withCue(23, 0, 15, 1), 0, 1);
        firstBars("4, 20 and 3 in 27", withCue(27, 0, 15, 1), 0);
    }

    private static void cueOfTheFirstVoice() {
        Due.says("with a CUE (to the BAR that it is for) 3 more");
        PartRoom x = oneLine(24, 1, 0);
        x.voice(0, 0);
        x.notes(1, 1, 16, 1);
        x.due(1);
        Due.is("CUE of voice 0", x.cue(1, 1), 0);
        Due.is("4 and 21 in 24", x.pages(1, 0), 2);
        x.paper(25, 1);
        Due.is("4 and 21 in 25", x.pages(1, 0), 1);
    }

    private static void widthOfRests() {
        Due.says("of BARS of one of its RESTS that stand in one SYSTEM the first is 4 wide, the others nothing");
        PartRoom x = oneLine(21, times(40, 0));
        Due.is("forty bars", x.pages(0, 0), 1);
        for (int b = 5; b < 25; b += 5) {
            x.sign(b, 2);
        }
        Due.is("five RESTS", x.pages(0, 0), 1);
        x.sign(39, 2);
        Due.is("six RESTS", x.pages(0, 0), 2);
        x.sign(39, 0);
        x.sign(20, 1);
        Due.is("a sign makes six of them, too", x.pages(0, 0), 2);
        PartRoom y = oneLine(21, times(40, 0));
        y.notes(0, 0, 15, 1);
        Due.is("17 and a rest of 39 bars", y.pages(0, 0), 1);
        y.notes(0, 0, 16, 1);
        Due.is("18 and a rest of 39 bars", y.pages(0, 0), 2);
    }

    private static void restsOnTheNextPage() {
        Due.says("of BARS of one of its RESTS that stand in one SYSTEM the first is 4 wide");
        firstBars("a rest that goes on is 4 wide on the next page", oneLine(21, 0, 0, 16), 0, 2);
        firstBars("and no wider at its beginning", oneLine(21, 16, 0, 0, 15), 0, 1);
        PartRoom x = oneLine(21, 0, 0, 16);
        x.paper(21, 2);
        Due.is("4 and 18 in two systems", x.systems(0, 0), 2);
    }

    private static void atMostLines() {
        Due.says("a PAGE has at most LINES SYSTEMS (1 .. 8; 4 at first)");
        for (int lines = 1; lines <= 8; lines++) {
            PartRoom x = oneLine(21, times(2 * lines, 8));
            x.paper(21, lines);
            Due.is(lines + " systems, pages", x.pages(0, 0), 1);
            Due.is(lines + " systems", x.systems(0, 0), lines);
            PartRoom y = oneLine(21, times(2 * lines + 1, 8));
            y.paper(21, lines);
            Due.is(lines + " systems and a bar, pages", y.pages(0, 0), 2);
            Due.is(lines + " systems and a bar, the last page", y.systems(0, 1), lines);
        }
    }

    private static void filledFromTheFirstBar() {
        Due.says("filled one behind the other from its first BAR on");
        PartRoom x = oneLine(21, 8, 9, 8, 8);
        x.paper(21, 3);
        Due.is("10 11 | 10 10", x.systems(0, 0), 2);
        x.notes(0, 1, 10, 1);
        Due.is("10 | 12 | 10 10", x.systems(0, 0), 3);
        x.paper(21, 2);
        firstBars("10 and 12 | 10 10", x, 0, 1);
        Due.is("systems of the first", x.systems(0, 0), 1);
        Due.is("systems of the second", x.systems(0, 1), 2);
    }

    private static void filledOnALaterPage() {
        Due.says("filled one behind the other from its first BAR on");
        PartRoom x = Due.roomWithBars(1, 1, 1, 5, 1);
        x.voice(0, 0);
        Due.play(x, 16, 8, 8, 0, 1);
        x.paper(21, 2);
        firstBars("18, 10 10 | 4 3", x, 0, 3);
        Due.is("systems of the first", x.systems(0, 0), 2);
        Due.is("systems of the second", x.systems(0, 1), 1);
    }

    private static void cutForPages() {
        Due.says("PAGES of a VOICE: all BARS (not CUT), in order, in PAGES, each in SYSTEMS.");
        PartRoom x = oneLine(21, times(6, 16));
        firstBars("none is CUT", x, 0, 1, 2, 3, 4, 5);
        x.cut(0, 0, 1);
        x.cut(2, 3, 1);
        x.cut(5, 5, 1);
        firstBars("four are CUT", x, 1, 4);
        Due.is("FREE over the cut", x.free(0, 0), 0);
    }

    private static void freeOfBothSides() {
        Due.says("FREE: SECONDS of the BARS right ahead of it and right behind it in which the VOICE RESTS");
        PartRoom x = Due.roomWithBars(60, 60, 7, 60, 60, 60);
        x.voice(0, 0);
        Due.play(x, 16, 0, 0, 16, 16, 16);
        x.paper(22, 1);
        x.need(60);
        firstBars("18 | 4 18 | 18 | 18", x, 0, 1, 4, 5);
        Due.is("bars behind the turn", x.free(0, 0), 67);
        Due.is("neither ahead nor behind", x.free(0, 1), 0);
        Due.play(x, 16, 16, 16, 0, 0, 16);
        x.paper(36, 1);
        firstBars("18 | 18 18 | 4 18", x, 0, 1, 3);
        Due.is("the second turn", x.free(0, 1), 120);
        x.paper(21, 1);
        firstBars("18 | 18 | 18 | 4 | 18", x, 0, 1, 2, 3, 5);
        Due.is("ahead of the last turn", x.free(0, 3), 120);
        PartRoom split = Due.roomWithBars(1, 2, 4, 8, 16);
        split.voice(0, 0);
        Due.play(split, 16, 0, 0, 0, 16);
        split.sign(2, 2);
        split.sign(3, 2);
        split.paper(26, 1);
        split.need(14);
        firstBars("18 4 | 4 4 18", split, 0, 2);
        Due.is("ahead and behind together", split.free(0, 0), 14);
    }

    private static void freeUpToNotes() {
        Due.says("all that follow one another without a BAR in which it plays");
        PartRoom x = Due.roomWithBars(32, 1, 2, 4, 8, 32);
        x.voice(0, 0);
        Due.play(x, 0, 16, 0, 0, 16, 0);
        x.paper(21, 1);
        x.need(6);
        firstBars("4 | 18 | 4 | 18 | 4", x, 0, 1, 2, 4, 5);
        Due.is("turn 0", x.free(0, 0), 32);
        Due.is("turn 1", x.free(0, 1), 6);
        Due.is("turn 2", x.free(0, 2), 6);
        Due.is("turn 3", x.free(0, 3), 32);
        x.notes(0, 2, 1, 0);
        Due.is("notes without loudness end it, too", x.free(0, 1), 0);
    }

    private static void freeAtTheEnds() {
        Due.says("BARS right ahead of it and right behind it in which the VOICE RESTS, all that follow one another");
        PartRoom x = new PartRoom();
        x.voice(0, 0);
        for (int b = 0; b < 40; b++) {
            x.bar(60);
            x.sign(b, 2);
        }
        x.paper(21, 1);
        Due.is("pages of five RESTS", x.pages(0, 0), 8);
        for (int i = 0; i < 7; i++) {
            Due.is("all seconds at turn " + i, x.free(0, i), 2400);
        }
        Due.is("no turn behind the last page", x.free(0, 7), Due.NONE);
    }

    private static void freeOverMarksAndCuts() {
        Due.says("What is CUT isn't there for .. pages");
        PartRoom x = Due.roomWithBars(32, 1, 2, 4, 8, 32);
        x.voice(0, 0);
        Due.play(x, 16, 0, 3, 0, 0, 16);
        x.paper(22, 1);
        x.cut(2, 2, 1);
        Due.is("over notes that are CUT", x.free(0, 0), 13);
        x.cut(3, 3, 1);
        Due.is("without rests that are CUT", x.free(0, 0), 9);
        x.sign(1, 1);
        x.sign(4, 2);
        Due.is("over a sign and a letter", x.free(0, 0), 9);
    }

    /** One turn with just so many seconds free (0: no rest at all). */
    private static PartRoom turnOf(int kind, int seconds) {
        PartRoom x = Due.roomWithBars(60, seconds == 0 ? 60 : seconds, 60);
        x.voice(kind, 0);
        Due.play(x, 16, seconds == 0 ? 1 : 0, 16);
        x.paper(22, 1);
        return x;
    }

    private static void badTurns(String what, PartRoom x, int want) {
        Due.is(what + ": pages", x.pages(0, 0), 2);
        Due.is(what, x.pages(0, 1), want);
    }

    private static void badIfLess() {
        Due.says("It is BAD if FREE is less than NEED (0 .. 60");
        for (int need = 1; need <= 60; need++) {
            PartRoom just = turnOf(0, need);
            just.need(need);
            badTurns("FREE " + need + " of " + need, just, 0);
            PartRoom less = turnOf(2, need - 1);
            less.need(need);
            badTurns("FREE " + (need - 1) + " of " + need, less, 1);
        }
    }

    private static void needAtFirst() {
        Due.says("NEED (0 .. 60; 5 at first; of a DESK half, cut)");
        badTurns("FREE 5", turnOf(0, 5), 0);
        badTurns("FREE 4", turnOf(0, 4), 1);
        badTurns("FREE 5 of a MOVER", turnOf(2, 5), 0);
        badTurns("FREE 4 of a MOVER", turnOf(2, 4), 1);
        badTurns("FREE 2 of a DESK", turnOf(1, 2), 0);
        badTurns("FREE 1 of a DESK", turnOf(1, 1), 1);
    }

    private static void needOfADesk() {
        Due.says("of a DESK half, cut");
        for (int half = 1; half <= 30; half++) {
            for (int odd = 0; odd <= 1 && 2 * half + odd <= 60; odd++) {
                PartRoom just = turnOf(1, half);
                just.need(2 * half + odd);
                badTurns("FREE " + half + " of half " + (2 * half + odd), just, 0);
                PartRoom less = turnOf(1, half - 1);
                less.need(2 * half + odd);
                badTurns("FREE " + (half - 1) + " of half " + (2 * half + odd), less, 1);
            }
        }
        PartRoom one = turnOf(1, 0);
        one.need(1);
        badTurns("FREE 0 of half 1", one, 0);
    }

    private static void needNothing() {
        Due.says("It is BAD if FREE is less than NEED (0 .. 60");
        for (int kind = 0; kind <= 2; kind++) {
            PartRoom x = turnOf(kind, 0);
            x.need(0);
            badTurns("FREE 0 of 0, kind " + kind, x, 0);
        }
    }

    private static void needRange() {
        Due.says("NEED: what it was. BEYOND.");
        PartRoom x = new PartRoom();
        Due.is("at first", x.need(3), 5);
        Due.range("need(seconds)", 0, 60, s -> x.need(s));
        Due.is("the last that was taken", x.need(0), 60);
        Due.is("what it was", x.need(5), 0);
    }

    private static void fewestBadTurns() {
        Due.says("of all ways to part the BARS into PAGES that with the fewest BAD TURNS");
        PartRoom x = Due.roomWithBars(1, 5, 1, 1, 5, 1);
        x.voice(0, 0);
        Due.play(x, 1, 0, 16, 16, 0, 1);
        x.paper(40, 1);
        firstBars("3 | 4 18 18 | 4 3: a page more, and no BAD TURN", x, 0, 1, 4);
        Due.is("BAD TURNS", x.pages(0, 1), 0);
        x.need(6);
        firstBars("3 4 18 | 18 4 3: all turns are BAD", x, 0, 3);
        Due.is("a BAD TURN", x.pages(0, 1), 1);
    }

    private static void fewestPages() {
        Due.says("of several the one with the fewest PAGES");
        firstBars("all on one page", oneLine(21, times(40, 0)), 0);
        firstBars("two and not three", oneLine(21, 8, 8, 8, 8), 0, 2);
        PartRoom x = oneLine(60, times(40, 1));
        firstBars("twenty to a page", x, 0, 20);
        Due.is("nothing is BAD", x.pages(0, 1), 0);
    }

    private static void firstPageFewestBars() {
        Due.says("of several the one whose first PAGE has the fewest BARS");
        firstBars("10 | 10 10", oneLine(21, 8, 8, 8), 0, 1);
        firstBars("10 | 10 10 | 10 10", oneLine(21, 8, 8, 8, 8, 8), 0, 1, 3);
        PartRoom x = oneLine(21, 8, 8, 8);
        x.need(1);
        firstBars("all turns BAD alike", x, 0, 1);
        x.notes(0, 2, 0, 0);
        firstBars("a good turn ahead of the last bar", x, 0, 2);
    }

    private static void thenTheSecond() {
        Due.says("then the second, and so on");
        firstBars("18 | 10 | 10 10", oneLine(21, 16, 8, 8, 8), 0, 1, 2);
        firstBars("18 | 18 | 10 | 10 10", oneLine(21, 16, 16, 8, 8, 8), 0, 1, 2, 3);
        firstBars("10 | 10 10 | 18 | 10 | 10 10", oneLine(21, 8, 8, 8, 16, 8, 8, 8), 0, 1, 3, 4, 5);
    }

    private static void noneWithoutBars() {
        Due.says("There are none without BARS that aren't CUT.");
        PartRoom x = Due.roomOf(0, 1);
        noPages("no bars", x);
        x.bar(1);
        Due.is("a bar came", x.pages(0, 0), 1);
        x.cut(0, 0, 1);
        noPages("it is CUT", x);
        PartRoom full = Due.roomOf(40, 1);
        full.cut(0, 39, 1);
        noPages("all forty are CUT", full);
        full.cut(39, 39, 0);
        firstBars("but the last", full, 39);
        full.sign(39, 7);
        noPages("the last by its sign", full);
    }

    private static void noPages(String what, PartRoom x) {
        Due.is(what + ": pages(0, 0)", x.pages(0, 0), Due.NONE);
        Due.is(what + ": pages(0, 1)", x.pages(0, 1), Due.NONE);
        Due.is(what + ": page(0, 0)", x.page(0, 0), Due.NONE);
        Due.is(what + ": free(0, 0)", x.free(0, 0), Due.NONE);
        Due.is(what + ": systems(0, 0)", x.systems(0, 0), Due.NONE);
        Due.is(what + ": lay(0)", x.lay(0), Due.NONE);
    }

    private static void pagesRefused() {
        Due.says("BEYOND: there is no such VOICE, or another what. NONE: there are none.");
        PartRoom x = Due.roomOf(2, 6);
        Due.range("pages(voice, 0)", 0, 5, v -> x.pages(v, 0));
        Due.range("pages(0, what)", 0, 1, what -> x.pages(0, what));
        PartRoom one = Due.roomOf(2, 1);
        Due.range("pages(voice, 0) of one", 0, 0, v -> one.pages(v, 0));
        Due.is("one page has no turn", one.pages(0, 1), 0);
    }

    private static void pageRefused() {
        Due.says("The first BAR of PAGE i (from 0 on) of THE PAGES. BEYOND: there is no such VOICE, or i is below 0.");
        PartRoom x = Due.roomOf(2, 6);
        Due.play(x, 16, 16);
        x.paper(21, 1);
        Due.range("page(voice, 0)", 0, 5, v -> x.page(v, 0));
        Due.refused("page(0, i)", i -> x.page(0, i), -1, -2, Integer.MIN_VALUE);
        Due.is("page(0, 1)", x.page(0, 1), 1);
        Due.is("page(0, 2)", x.page(0, 2), Due.NONE);
        Due.is("page(0, 3)", x.page(0, 3), Due.NONE);
        Due.is("page(0, MAX)", x.page(0, Integer.MAX_VALUE), Due.NONE);
    }

    private static void freeRefused() {
        Due.says("FREE of the TURN behind PAGE i. BEYOND: as of page(). NONE: there is none such.");
        PartRoom x = Due.roomOf(3, 6);
        Due.play(x, 16, 0, 16);
        x.paper(22, 1);
        Due.range("free(voice, 0)", 0, 5, v -> x.free(v, 0));
        Due.refused("free(0, i)", i -> x.free(0, i), -1, -2, Integer.MIN_VALUE);
        Due.is("the only turn", x.free(0, 0), 1);
        Due.is("behind the last page", x.free(0, 1), Due.NONE);
        Due.is("behind no page", x.free(0, 2), Due.NONE);
        Due.is("free(0, MAX)", x.free(0, Integer.MAX_VALUE), Due.NONE);
        Due.is("one page has no turn", x.free(1, 0), Due.NONE);
    }

    private static void systemsRefused() {
        Due.says("How many SYSTEMS PAGE i has. BEYOND, NONE: as of page().");
        PartRoom x = Due.roomOf(2, 6);
        Due.play(x, 16, 16);
        x.paper(21, 1);
        Due.range("systems(voice, 0)", 0, 5, v -> x.systems(v, 0));
        Due.refused("systems(0, i)", i -> x.systems(0, i), -1, -2, Integer.MIN_VALUE);
        Due.is("systems(0, 1)", x.systems(0, 1), 1);
        Due.is("systems(0, 2)", x.systems(0, 2), Due.NONE);
        Due.is("systems(0, 3)", x.systems(0, 3), Due.NONE);
        Due.is("systems(0, MAX)", x.systems(0, Integer.MAX_VALUE), Due.NONE);
    }
}
