/** Promises 14 to 21: paper, need, pages, laying them, and what grows stale. */
final class PagesTest {
    private PagesTest() {
    }

    public static void main(String[] args) {
        paper();
        paperAtFirst();
        need();
        onePage();
        widths();
        restsInSystems();
        cueWidth();
        badTurns();
        fewestFirst();
        free();
        freeAtTheEnds();
        fortyPages();
        laying();
        staleBars();
        staleAround();
        Due.end();
    }

    private static void paper() {
        PartRoom x = Due.roomOf(40);
        x.voice(0, 0);
        for (int b = 0; b < 40; b++) {
            x.notes(0, b, 8, 1);
        }
        Due.is("at first 40 wide, 4 lines", x.pages(0, 0), 3);
        Due.is("paper(21, 1)", x.paper(21, 1), 1);
        Due.is("two to a page", x.pages(0, 0), 20);
        Due.is("paper(20, 1)", x.paper(20, 1), Due.BEYOND);
        Due.is("paper(61, 1)", x.paper(61, 1), Due.BEYOND);
        Due.is("paper(21, 0)", x.paper(21, 0), Due.BEYOND);
        Due.is("paper(60, 9)", x.paper(60, 9), Due.BEYOND);
        Due.is("findings changed nothing", x.pages(0, 0), 20);
        Due.is("paper(60, 8)", x.paper(60, 8), 1);
        Due.is("all on one page", x.pages(0, 0), 1);
        Due.is("its systems", x.systems(0, 0), 7);
        Due.is("paper(60, 6)", x.paper(60, 6), 1);
        Due.is("one system too many", x.pages(0, 0), 2);
    }

    private static void paperAtFirst() {
        PartRoom x = Due.roomOf(3);
        x.voice(0, 0);
        x.notes(0, 0, 16, 1);
        x.notes(0, 1, 16, 1);
        Due.is("18, 18 and a rest fill 40", x.systems(0, 0), 1);
        x.notes(0, 2, 3, 1);
        Due.is("18, 18 and 5 don't", x.systems(0, 0), 2);
    }

    private static void need() {
        PartRoom x = Due.roomOf(1);
        Due.is("need(0)", x.need(0), 5);
        Due.is("need(60)", x.need(60), 0);
        Due.is("need(61)", x.need(61), Due.BEYOND);
        Due.is("need(-1)", x.need(-1), Due.BEYOND);
        Due.is("findings changed nothing", x.need(5), 60);
    }

    private static void onePage() {
        PartRoom x = Due.roomOf(3);
        x.voice(0, 0);
        Due.is("pages(0, 0)", x.pages(0, 0), 1);
        Due.is("pages(0, 1)", x.pages(0, 1), 0);
        Due.is("pages(0, 2)", x.pages(0, 2), Due.BEYOND);
        Due.is("pages(0, -1)", x.pages(0, -1), Due.BEYOND);
        Due.is("pages(1, 0)", x.pages(1, 0), Due.BEYOND);
        Due.is("pages(-1, 0)", x.pages(-1, 0), Due.BEYOND);
        Due.is("page(0, 0)", x.page(0, 0), 0);
        Due.is("page(0, 1)", x.page(0, 1), Due.NONE);
        Due.is("page(0, MAX)", x.page(0, Integer.MAX_VALUE), Due.NONE);
        Due.is("page(0, -1)", x.page(0, -1), Due.BEYOND);
        Due.is("page(1, 0)", x.page(1, 0), Due.BEYOND);
        Due.is("free(0, 0)", x.free(0, 0), Due.NONE);
        Due.is("free(0, 1)", x.free(0, 1), Due.NONE);
        Due.is("free(0, -1)", x.free(0, -1), Due.BEYOND);
        Due.is("free(1, 0)", x.free(1, 0), Due.BEYOND);
        Due.is("systems(0, 0)", x.systems(0, 0), 1);
        Due.is("systems(0, 1)", x.systems(0, 1), Due.NONE);
        Due.is("systems(0, -1)", x.systems(0, -1), Due.BEYOND);
        Due.is("systems(1, 0)", x.systems(1, 0), Due.BEYOND);
        x.cut(0, 0, 1);
        Due.is("the first bar that isn't cut", x.page(0, 0), 1);
        x.cut(0, 2, 1);
        Due.is("all is cut: pages(0, 0)", x.pages(0, 0), Due.NONE);
        Due.is("all is cut: pages(0, 1)", x.pages(0, 1), Due.NONE);
        Due.is("all is cut: page", x.page(0, 0), Due.NONE);
        Due.is("all is cut: free", x.free(0, 0), Due.NONE);
        Due.is("all is cut: systems", x.systems(0, 0), Due.NONE);
        Due.is("all is cut: what is asked first", x.pages(0, 2), Due.BEYOND);
    }

    private static void widths() {
        PartRoom x = Due.roomOf(2);
        x.voice(0, 0);
        x.need(0);
        x.paper(30, 1);
        x.notes(0, 0, 16, 1);
        x.notes(0, 1, 10, 1);
        Due.is("18 and 12 stand in 30", x.pages(0, 0), 1);
        x.notes(0, 1, 11, 1);
        Due.is("18 and 13 don't", x.pages(0, 0), 2);
        x.paper(30, 2);
        Due.is("they do in two systems", x.pages(0, 0), 1);
        Due.is("two systems", x.systems(0, 0), 2);
        x.paper(31, 1);
        Due.is("18 and 13 stand in 31", x.systems(0, 0), 1);
    }

    private static void restsInSystems() {
        PartRoom x = Due.roomOf(6);
        x.voice(0, 0);
        x.need(0);
        x.paper(21, 1);
        x.notes(0, 0, 15, 1);
        Due.is("17 and a rest of 4", x.pages(0, 0), 1);
        x.sign(3, 2);
        Due.is("a letter begins another", x.pages(0, 0), 2);
        Due.is("turned as soon as may be", x.page(0, 1), 1);
        x.notes(0, 0, 11, 1);
        Due.is("13 and two rests of 4", x.pages(0, 0), 1);
        x.sign(3, 1);
        Due.is("13 and three rests of 4", x.pages(0, 0), 2);
        x.paper(21, 2);
        Due.is("in two systems", x.systems(0, 0), 2);
        x.sign(3, 0);
        x.notes(0, 0, 16, 1);
        Due.is("a rest that goes to the next system", x.systems(0, 0), 2);
        x.notes(0, 5, 16, 1);
        Due.is("18 | 4 | 18", x.pages(0, 0), 2);
        Due.is("the first page", x.systems(0, 0), 1);
        Due.is("the second page", x.page(0, 1), 1);
        Due.is("its systems: a rest is 4 anew", x.systems(0, 1), 2);
        x.notes(0, 5, 15, 1);
        Due.is("4 and 17 in one system", x.systems(0, 0), 2);
        Due.is("on one page", x.pages(0, 0), 1);
    }

    private static void cueWidth() {
        PartRoom x = Due.roomOf(9);
        x.voice(0, 0);
        x.voice(0, 0);
        x.need(0);
        x.notes(0, 8, 14, 1);
        x.notes(1, 7, 1, 1);
        x.paper(22, 1);
        Due.is("4 and 16 and a cue of 3", x.pages(0, 0), 2);
        x.paper(23, 1);
        Due.is("in 23", x.pages(0, 0), 1);
        x.paper(22, 1);
        x.stage(1, 0);
        Due.is("without a cue", x.pages(0, 0), 1);
        x.stage(1, 1);
        x.due(9);
        Due.is("not due", x.pages(0, 0), 1);
        x.due(8);
        x.cut(3, 3, 1);
        Due.is("cut away", x.pages(0, 0), 1);
        x.cut(3, 3, 0);
        Due.is("back again", x.pages(0, 0), 2);
        x.notes(0, 8, 16, 1);
        x.paper(21, 1);
        Due.is("18 and 3 fill a system", x.pages(0, 0), 2);
        x.notes(0, 8, 0, 0);
        x.notes(0, 7, 1, 1);
        x.notes(1, 7, 0, 0);
        x.notes(1, 8, 14, 1);
        x.due(1);
        x.paper(22, 1);
        Due.is("a cue of voice 0 is as wide", x.pages(1, 0), 2);
        x.paper(23, 1);
        Due.is("in 23, too", x.pages(1, 0), 1);
    }

    private static void badTurns() {
        PartRoom x = Due.roomWithBars(9, 3, 9, 9);
        x.voice(0, 0);
        x.voice(1, 0);
        for (int v = 0; v < 2; v++) {
            x.notes(v, 0, 16, 1);
            x.notes(v, 2, 16, 1);
            x.notes(v, 3, 16, 1);
        }
        x.paper(44, 1);
        x.need(3);
        Due.is("need 3 of 3", x.pages(0, 1), 0);
        Due.is("turned at the rest", x.page(0, 1), 1);
        x.need(4);
        Due.is("need 4 of 3", x.pages(0, 1), 1);
        Due.is("a desk needs half", x.pages(1, 1), 0);
        x.need(7);
        Due.is("half of 7, cut", x.pages(1, 1), 0);
        x.need(8);
        Due.is("half of 8", x.pages(1, 1), 1);
        x.need(0);
        Due.is("need 0", x.pages(0, 1), 0);
        Due.is("turned at once", x.page(0, 1), 1);
        moreGoodPages();
    }

    // A way with more pages but fewer bad turns is the better one.
    private static void moreGoodPages() {
        PartRoom x = Due.roomWithBars(5, 5, 1, 1, 5, 1);
        x.voice(0, 0);
        x.notes(0, 0, 1, 1);
        x.notes(0, 2, 16, 1);
        x.notes(0, 3, 16, 1);
        x.notes(0, 5, 16, 1);
        x.paper(40, 1);
        Due.is("three pages", x.pages(0, 0), 3);
        Due.is("no bad turn", x.pages(0, 1), 0);
        Due.is("second page", x.page(0, 1), 1);
        Due.is("third page", x.page(0, 2), 4);
        x.need(6);
        Due.is("none is good: two pages", x.pages(0, 0), 2);
        Due.is("one bad turn", x.pages(0, 1), 1);
    }

    private static void fewestFirst() {
        PartRoom x = Due.roomOf(5);
        x.voice(0, 0);
        x.need(0);
        for (int b = 0; b < 5; b++) {
            x.notes(0, b, 8, 1);
        }
        x.paper(21, 1);
        Due.is("pages", x.pages(0, 0), 3);
        Due.is("the first has one bar", x.page(0, 1), 1);
        Due.is("the second has two", x.page(0, 2), 3);
        x.notes(0, 4, 0, 0);
        Due.is("with a rest at the end", x.pages(0, 0), 3);
        Due.is("second of these", x.page(0, 1), 1);
        Due.is("third of these", x.page(0, 2), 3);
        x.cut(1, 1, 1);
        Due.is("pages with a cut", x.pages(0, 0), 2);
        Due.is("second behind the cut", x.page(0, 1), 3);
        Due.is("third behind the cut", x.page(0, 2), Due.NONE);
    }

    private static void free() {
        PartRoom x = Due.roomWithBars(60, 1, 2, 4, 8, 16, 60);
        x.voice(0, 0);
        x.paper(21, 1);
        x.notes(0, 0, 15, 1);
        x.notes(0, 6, 15, 1);
        x.need(31);
        Due.is("pages", x.pages(0, 0), 2);
        Due.is("page 1", x.page(0, 1), 1);
        Due.is("all bars of rest", x.free(0, 0), 31);
        Due.is("no turn behind the last", x.free(0, 1), Due.NONE);
        x.sign(3, 1);
        x.sign(5, 2);
        Due.is("signs and letters part it not", x.free(0, 0), 31);
        Due.is("none is bad", x.pages(0, 1), 0);
        x.cut(2, 2, 1);
        Due.is("without what is cut", x.free(0, 0), 29);
        Due.is("that is bad", x.pages(0, 1), x.pages(0, 0) - 1);
        x.cut(2, 2, 0);
        x.notes(0, 2, 1, 1);
        x.need(28);
        Due.is("turn behind bar 2", x.page(0, 1), 1);
        Due.is("just up to the notes", x.free(0, 0), 1);
    }

    private static void freeAtTheEnds() {
        PartRoom x = Due.roomWithBars(7, 1, 1, 9);
        x.voice(0, 0);
        x.paper(21, 1);
        x.notes(0, 1, 16, 1);
        x.notes(0, 2, 16, 1);
        Due.is("a page for each bar", x.pages(0, 0), 4);
        Due.is("one bad turn", x.pages(0, 1), 1);
        Due.is("from the first bar on", x.free(0, 0), 7);
        Due.is("between notes", x.free(0, 1), 0);
        Due.is("to the last bar", x.free(0, 2), 9);
        x.notes(0, 3, 16, 1);
        Due.is("nowhere", x.free(0, 2), 0);
    }

    private static void fortyPages() {
        PartRoom x = Due.roomOf(40);
        x.voice(0, 0);
        x.paper(21, 1);
        for (int b = 0; b < 40; b++) {
            x.notes(0, b, 16, 1);
        }
        Due.is("a page for each bar", x.lay(0), 40);
        Due.is("all turns are bad", x.pages(0, 1), 39);
        Due.is("the last page", x.page(0, 39), 39);
        Due.is("no page behind it", x.page(0, 40), Due.NONE);
        Due.is("the last turn", x.free(0, 38), 0);
        Due.is("no turn behind it", x.free(0, 39), Due.NONE);
        Due.is("no systems behind it", x.systems(0, 40), Due.NONE);
        Due.is("none is stale", x.stale(0), 0);
        x.cut(0, 39, 1);
        Due.is("all are stale", x.stale(0), 40);
    }

    private static void laying() {
        PartRoom x = Due.roomOf(4);
        x.voice(0, 0);
        x.voice(0, 0);
        x.need(0);
        x.paper(21, 1);
        for (int b = 0; b < 4; b++) {
            x.notes(0, b, 16, 1);
        }
        Due.is("nothing is laid", x.stale(0), Due.NONE);
        Due.is("no voices laid", x.count(5), 0);
        Due.is("lay(2)", x.lay(2), Due.BEYOND);
        Due.is("lay(-1)", x.lay(-1), Due.BEYOND);
        Due.is("stale(2)", x.stale(2), Due.BEYOND);
        Due.is("stale(-1)", x.stale(-1), Due.BEYOND);
        Due.is("lay(0)", x.lay(0), 4);
        Due.is("one voice laid", x.count(5), 1);
        Due.is("the other isn't", x.stale(1), Due.NONE);
        Due.is("nothing is stale", x.stale(0), 0);
        x.cut(0, 3, 1);
        Due.is("nothing to lay", x.lay(0), Due.NONE);
        Due.is("what was laid stays", x.stale(0), 4);
        x.cut(1, 2, 0);
        Due.is("two of four are back", x.stale(0), 2);
        Due.is("laid anew", x.lay(0), 2);
        Due.is("nothing is stale anew", x.stale(0), 0);
        Due.is("still one voice", x.count(5), 1);
        x.lay(1);
        Due.is("two voices", x.count(5), 2);
        x.paper(60, 8);
        x.need(60);
        x.due(1);
        x.key(3);
        x.stage(1, 0);
        Due.is("other paper makes nothing stale", x.stale(0), 0);
        x.notes(1, 1, 3, 3);
        Due.is("another voice's notes make nothing stale", x.stale(0), 0);
    }

    private static PartRoom laidPairs() {
        PartRoom x = Due.roomOf(6);
        x.voice(0, 0);
        x.need(0);
        x.paper(21, 1);
        for (int b = 0; b < 6; b++) {
            x.notes(0, b, 8, 4);
        }
        Due.is("three pages of two", x.lay(0), 3);
        return x;
    }

    private static void staleBars() {
        PartRoom x = laidPairs();
        x.notes(0, 3, 9, 4);
        Due.is("other notes", x.stale(0), 1);
        x.notes(0, 3, 8, 4);
        Due.is("the same again", x.stale(0), 0);
        x.notes(0, 3, 8, 5);
        Due.is("other loudness", x.stale(0), 1);
        x.notes(0, 2, 0, 0);
        Due.is("the same page twice", x.stale(0), 1);
        x.sign(5, 1);
        Due.is("a sign on another page", x.stale(0), 2);
        x.sign(5, 0);
        Due.is("and gone", x.stale(0), 1);
        x.sign(0, 2);
        Due.is("a letter", x.stale(0), 2);
        x.sign(0, 4);
        Due.is("cut by sign", x.stale(0), 2);
        x.cut(4, 4, 1);
        Due.is("cut", x.stale(0), 3);
        Due.is("laid anew", x.lay(0), 2);
        Due.is("then nothing is stale", x.stale(0), 0);
    }

    private static void staleAround() {
        PartRoom x = laidPairs();
        x.cut(0, 0, 1);
        x.cut(3, 3, 1);
        Due.is("laid: 1 2, 4 5", x.lay(0), 2);
        Due.is("its second page", x.page(0, 1), 4);
        x.notes(0, 3, 1, 1);
        x.sign(3, 7);
        x.sign(0, 5);
        Due.is("changes in bars that stay cut", x.stale(0), 0);
        x.cut(3, 3, 0);
        Due.is("a bar comes back behind page 0's bars", x.stale(0), 1);
        x.notes(0, 4, 1, 1);
        Due.is("so the other page may be stale, too", x.stale(0), 2);
        x.notes(0, 4, 8, 4);
        x.cut(3, 3, 1);
        Due.is("cut again", x.stale(0), 0);
        x.cut(0, 0, 0);
        Due.is("a bar comes back ahead of all", x.stale(0), 1);
        x.notes(0, 1, 1, 1);
        Due.is("that is the first page", x.stale(0), 1);
        x.bar(1);
        Due.is("a bar that came since is the last page's", x.stale(0), 2);
        x.sign(6, 4);
        Due.is("but not if it is cut", x.stale(0), 1);
        x.sign(6, 0);
        x.notes(0, 5, 1, 1);
        Due.is("last page stale just once", x.stale(0), 2);
    }
}
