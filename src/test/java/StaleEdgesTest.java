/** Promises 20 and 21 at their edges: each test bears the sentence that it would see broken. */
final class StaleEdgesTest {
    private StaleEdgesTest() {
    }

    public static void main(String[] args) {
        layRefused();
        nothingLaidAnew();
        staleRefused();
        asTheyWereLaid();
        otherNotes();
        otherLoudness();
        ofThisVoice();
        otherMarks();
        noChangeHidesAnother();
        isCut();
        cutThen();
        behindTheLastPage();
        cameSince();
        aheadOfTheFirst();
        betweenTwoPages();
        stillCut();
        asItWas();
        onePageOnce();
        Due.end();
    }

    /** Bars of a page each, by voice 0: 16 notes with loudness 1 in each of them, and LAID. */
    private static PartRoom laid(int bars) {
        PartRoom x = Due.roomOf(bars, 2);
        for (int b = 0; b < bars; b++) {
            x.notes(0, b, 16, 1);
        }
        x.paper(21, 1);
        Due.is("lay(0)", x.lay(0), bars);
        Due.is("none is STALE at first", x.stale(0), 0);
        return x;
    }

    private static void layRefused() {
        Due.says("THE PAGES of a VOICE are LAID: how many. BEYOND.");
        PartRoom x = Due.roomOf(40, 6);
        Due.range("lay(voice)", 0, 5, v -> x.lay(v));
        Due.is("VOICES that are LAID", x.count(5), 2);
        PartRoom one = Due.roomOf(1, 1);
        Due.range("lay(voice) of one", 0, 0, v -> one.lay(v));
        Due.is("one page", one.lay(0), 1);
        Due.is("forty pages", laid(40).lay(0), 40);
        Due.is("no voices", new PartRoom().lay(0), Due.BEYOND);
    }

    private static void nothingLaidAnew() {
        Due.says("NONE: there are none (nothing is laid anew).");
        PartRoom none = Due.roomOf(0, 1);
        Due.is("no bars", none.lay(0), Due.NONE);
        Due.is("nothing is LAID", none.stale(0), Due.NONE);
        Due.is("no VOICE is LAID", none.count(5), 0);
        PartRoom x = laid(3);
        x.cut(0, 2, 1);
        Due.is("all are CUT", x.lay(0), Due.NONE);
        Due.is("what was LAID is STALE", x.stale(0), 3);
        Due.is("and the VOICE is LAID", x.count(5), 1);
        x.cut(0, 2, 0);
        Due.is("what was LAID is as it was", x.stale(0), 0);
    }

    private static void staleRefused() {
        Due.says("How many PAGES that were LAID are STALE. BEYOND. NONE: nothing is LAID.");
        PartRoom x = Due.roomOf(2, 6);
        Due.range("stale(voice)", 0, 5, v -> x.stale(v));
        Due.is("nothing is LAID", x.stale(5), Due.NONE);
        x.lay(5);
        Due.is("it is LAID", x.stale(5), 0);
        Due.is("of another nothing is LAID", x.stale(4), Due.NONE);
        x.voice(0, 0);
        Due.is("no voices", new PartRoom().stale(0), Due.BEYOND);
    }

    private static void asTheyWereLaid() {
        Due.says("LAID are THE PAGES of a VOICE as they were when they were laid.");
        PartRoom x = laid(4);
        x.paper(60, 8);
        x.need(60);
        x.due(1);
        x.key(7);
        x.stage(0, 0);
        Due.is("THE PAGES are others", x.pages(0, 0), 1);
        Due.is("none is STALE by that", x.stale(0), 0);
        x.cut(0, 3, 1);
        Due.is("four were LAID", x.stale(0), 4);
        x.cut(0, 3, 0);
        Due.is("laid anew", x.lay(0), 1);
        x.cut(0, 3, 1);
        Due.is("one was LAID", x.stale(0), 1);
    }

    private static void otherNotes() {
        Due.says("STALE if one of its BARS has now other NOTES");
        PartRoom x = laid(40);
        x.notes(0, 0, 15, 1);
        Due.is("in the first", x.stale(0), 1);
        x.notes(0, 39, 15, 1);
        Due.is("in the last", x.stale(0), 2);
        x.notes(0, 20, 0, 0);
        Due.is("none at all", x.stale(0), 3);
        x.notes(0, 20, 16, 1);
        x.notes(0, 0, 16, 1);
        x.notes(0, 39, 16, 1);
        Due.is("the same again", x.stale(0), 0);
    }

    private static void otherLoudness() {
        Due.says("or LOUDNESS of this VOICE");
        PartRoom x = laid(2);
        x.notes(0, 1, 16, 2);
        Due.is("louder", x.stale(0), 1);
        x.notes(0, 1, 16, 0);
        Due.is("not loud", x.stale(0), 1);
        x.notes(0, 1, 16, 9);
        Due.is("loudest", x.stale(0), 1);
        x.notes(0, 1, 16, 1);
        Due.is("as it was", x.stale(0), 0);
    }

    private static void ofThisVoice() {
        Due.says("other NOTES or LOUDNESS of this VOICE");
        PartRoom x = laid(9);
        for (int b = 0; b < 9; b++) {
            x.notes(0, b, b == 8 ? 16 : 0, b == 8 ? 1 : 0);
        }
        x.lay(0);
        x.notes(1, 7, 16, 9);
        Due.is("a CUE came of another voice", x.cue(0, 8), 1);
        Due.is("that makes nothing STALE", x.stale(0), 0);
    }

    private static void otherMarks() {
        Due.says("another SIGN or LETTER");
        PartRoom x = laid(3);
        x.sign(0, 1);
        Due.is("a SIGN came", x.stale(0), 1);
        x.sign(2, 2);
        Due.is("a LETTER came", x.stale(0), 2);
        x.lay(0);
        x.sign(0, 2);
        Due.is("a LETTER for a SIGN", x.stale(0), 1);
        x.sign(2, 0);
        Due.is("a LETTER went", x.stale(0), 2);
        x.sign(0, 0);
        Due.is("a SIGN went", x.stale(0), 2);
        x.sign(0, 3);
        Due.is("a LETTER beside a SIGN", x.stale(0), 2);
        x.sign(0, 1);
        x.sign(2, 2);
        Due.is("as they were", x.stale(0), 0);
    }

    /** Every state of a bar beside a few that were LAID: just the same one isn't STALE. */
    private static void noChangeHidesAnother() {
        Due.says("other NOTES or LOUDNESS of this VOICE, another SIGN or LETTER");
        int[][] states = {{16, 1, 0}, {16, 9, 3}, {8, 4, 1}, {1, 0, 2}, {1, 9, 3}, {0, 0, 3}, {0, 0, 0}};
        for (int[] then : states) {
            for (int notes = 0; notes <= 16; notes++) {
                PartRoom x = Due.roomOf(1, 1);
                x.notes(0, 0, then[0], then[1]);
                x.sign(0, then[2]);
                x.lay(0);
                for (int loud = 0; loud <= (notes == 0 ? 0 : 9); loud++) {
                    x.notes(0, 0, notes, loud);
                    for (int bits = 0; bits <= 3; bits++) {
                        x.sign(0, bits);
                        boolean same = notes == then[0] && loud == then[1] && bits == then[2];
                        Due.is(then[0] + " notes, loud " + then[1] + ", bits " + then[2] + " then, now " + notes
                                + ", " + loud + ", " + bits, x.stale(0), same ? 0 : 1);
                    }
                }
            }
        }
    }

    private static void isCut() {
        Due.says("or is CUT");
        PartRoom x = laid(3);
        x.cut(0, 0, 1);
        Due.is("the first BAR", x.stale(0), 1);
        x.sign(2, 4);
        Due.is("the last BAR, by its sign", x.stale(0), 2);
        x.cut(0, 2, 1);
        Due.is("all", x.stale(0), 3);
    }

    private static void cutThen() {
        Due.says("a BAR that was CUT then and isn't now .. stands behind its first BAR and ahead of the next PAGE's"
                + " first one");
        for (int b = 1; b < 5; b++) {
            PartRoom x = laid(5);
            x.cut(b, b, 1);
            Due.is("pages without bar " + b, x.lay(0), 4);
            x.cut(b, b, 0);
            Due.is("bar " + b + " isn't CUT now", x.stale(0), 1);
            x.notes(0, b - 1, 1, 1);
            Due.is("that is the page ahead of bar " + b, x.stale(0), 1);
            x.notes(0, 0, 1, 1);
            Due.is("and no other page than that of bar " + (b - 1), x.stale(0), b == 1 ? 1 : 2);
        }
    }

    private static void behindTheLastPage() {
        Due.says("a BAR that was CUT then and isn't now .. stands behind its first BAR");
        PartRoom x = laid(4);
        x.cut(2, 3, 1);
        x.lay(0);
        x.cut(3, 3, 0);
        Due.is("the last page", x.stale(0), 1);
        x.notes(0, 1, 1, 1);
        Due.is("just that one", x.stale(0), 1);
    }

    private static void cameSince() {
        Due.says("(or came since, and isn't)");
        PartRoom x = laid(2);
        x.bar(1);
        Due.is("a bar came", x.stale(0), 1);
        x.notes(0, 1, 1, 1);
        Due.is("that is the last page", x.stale(0), 1);
        x.notes(0, 1, 16, 1);
        x.cut(2, 2, 1);
        Due.is("it is CUT", x.stale(0), 0);
        x.bar(1);
        Due.is("another came", x.stale(0), 1);
        x.sign(3, 4);
        Due.is("it is CUT, too", x.stale(0), 0);
        PartRoom full = laid(39);
        full.bar(1);
        Due.is("the 40th came", full.stale(0), 1);
        Due.is("no bar comes any more", full.bar(1), Due.FULL);
        Due.is("so nothing is STALE by it", full.stale(0), 1);
    }

    private static void aheadOfTheFirst() {
        Due.says("(ahead of the first PAGE's first BAR: the first PAGE is STALE)");
        PartRoom x = laid(4);
        x.cut(0, 1, 1);
        Due.is("pages", x.lay(0), 2);
        x.cut(0, 0, 0);
        Due.is("bar 0 isn't CUT now", x.stale(0), 1);
        x.notes(0, 2, 1, 1);
        Due.is("the first page", x.stale(0), 1);
        x.cut(1, 1, 0);
        Due.is("nor is bar 1", x.stale(0), 1);
        x.cut(0, 1, 1);
        x.notes(0, 2, 16, 1);
        Due.is("as it was", x.stale(0), 0);
    }

    private static void betweenTwoPages() {
        Due.says("stands behind its first BAR and ahead of the next PAGE's first one");
        PartRoom x = Due.roomOf(6, 1);
        Due.play(x, 8, 8, 8, 8, 8, 8);
        x.paper(21, 1);
        x.cut(1, 1, 1);
        x.cut(3, 3, 1);
        Due.is("0 2 | 4 5", x.lay(0), 2);
        Due.is("the second page", x.page(0, 1), 4);
        x.cut(1, 1, 0);
        Due.is("among the BARS of the first", x.stale(0), 1);
        x.cut(3, 3, 0);
        Due.is("between the two: the first, too", x.stale(0), 1);
        x.cut(1, 1, 1);
        Due.is("just that", x.stale(0), 1);
        x.notes(0, 5, 1, 1);
        Due.is("the second isn't, till now", x.stale(0), 2);
    }

    private static void stillCut() {
        Due.says("a BAR that was CUT then and isn't now");
        PartRoom x = laid(4);
        x.cut(1, 1, 1);
        x.lay(0);
        x.notes(0, 1, 3, 3);
        x.sign(1, 7);
        Due.is("other NOTES and marks of a BAR that stays CUT", x.stale(0), 0);
        x.cut(1, 1, 0);
        Due.is("it isn't CUT any more", x.stale(0), 1);
        x.sign(1, 4);
        Due.is("it is again", x.stale(0), 0);
    }

    private static void asItWas() {
        Due.says("STALE if one of its BARS has now other NOTES .. or is CUT");
        PartRoom x = laid(3);
        x.cut(0, 2, 1);
        x.notes(0, 1, 2, 2);
        x.sign(0, 7);
        x.sign(0, 0);
        x.cut(0, 2, 0);
        Due.is("changed while it was CUT", x.stale(0), 1);
        x.notes(0, 1, 16, 1);
        Due.is("all is now as it was", x.stale(0), 0);
    }

    private static void onePageOnce() {
        Due.says("How many PAGES that were LAID are STALE.");
        PartRoom x = Due.roomOf(40, 1);
        Due.is("one page of forty BARS", x.lay(0), 1);
        for (int b = 0; b < 40; b++) {
            x.notes(0, b, 1, 1);
        }
        Due.is("all its BARS are others", x.stale(0), 1);
    }
}
