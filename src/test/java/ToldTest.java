/** Promises 22 to 25: what is told. */
final class ToldTest {
    private ToldTest() {
    }

    public static void main(String[] args) {
        tell();
        check();
        checkWithCuts();
        count();
        found();
        Due.end();
    }

    private static void tell() {
        PartRoom x = new PartRoom();
        for (int i = 1; i <= 40; i++) {
            Due.is("tell " + i, x.tell(i % 2 == 0 ? Integer.MIN_VALUE : Integer.MAX_VALUE), i);
        }
        Due.is("the 41st", x.tell(1), Due.FULL);
        Due.is("40 wait", x.count(4), 40);
        Due.is("FULL was counted", x.found(4), 1);
        x.check(0);
        Due.is("after check", x.tell(5), 1);
    }

    private static void tellAll(PartRoom x, int... numbers) {
        for (int v : numbers) {
            x.tell(v);
        }
    }

    private static PartRoom room() {
        PartRoom x = Due.roomOf(8);
        x.voice(0, 0);
        x.notes(0, 3, 7, 1);
        x.notes(0, 4, 2, 0);
        x.sign(6, 2);
        return x;
    }

    private static void check() {
        PartRoom x = room();
        tellAll(x, -3, 7, 2, -1, -2);
        Due.is("as it is", x.check(0), 0);
        Due.is("none wait", x.count(4), 0);
        Due.is("nothing was told", x.check(0), 1);
        tellAll(x, -3, 7, 2, -1);
        Due.is("the last is missing", x.check(0), 5);
        tellAll(x, -3, 7, 2, -1, -2, 0);
        Due.is("more were told", x.check(0), 99);
        tellAll(x, -3, 7, 2, -3, -2, 0);
        Due.is("wrong and more", x.check(0), 4);
        tellAll(x, 3, 7, 2, -1, -2);
        Due.is("the first is wrong", x.check(0), 1);
        tellAll(x, -3, 2, 7);
        Due.is("the first of two wrong ones", x.check(0), 2);
        tellAll(x, -3, 7, 2, -1, -2);
        Due.is("no such voice", x.check(1), Due.BEYOND);
        Due.is("they are gone, too", x.count(4), 0);
        tellAll(x, -3, 7, 2, -1, -2);
        Due.is("voice -1", x.check(-1), Due.BEYOND);
        Due.is("gone again", x.check(0), 1);
        longestPart();
    }

    private static void longestPart() {
        PartRoom x = Due.roomOf(40);
        x.voice(0, 0);
        for (int b = 0; b < 40; b++) {
            x.notes(0, b, 1 + b % 16, 1);
            x.tell(1 + b % 16);
        }
        Due.is("40 bars", x.check(0), 0);
        for (int b = 0; b < 39; b++) {
            x.tell(1 + b % 16);
        }
        Due.is("39 of 40", x.check(0), 40);
    }

    private static void checkWithCuts() {
        PartRoom x = room();
        x.cut(4, 6, 1);
        tellAll(x, -3, 7, -1);
        Due.is("without what is cut", x.check(0), 0);
        x.cut(3, 3, 1);
        tellAll(x, -4);
        Due.is("rests join", x.check(0), 0);
        x.cut(0, 7, 1);
        Due.is("nothing is left", x.check(0), 0);
        tellAll(x, 0);
        Due.is("but something was told", x.check(0), 99);
    }

    private static void count() {
        PartRoom x = Due.roomWithBars(10, 20, 30);
        x.voice(0, 0);
        x.voice(1, 0);
        x.cut(1, 1, 1);
        x.tell(4);
        x.lay(1);
        Due.is("bars", x.count(0), 3);
        Due.is("voices", x.count(1), 2);
        Due.is("cut bars", x.count(2), 1);
        Due.is("seconds", x.count(3), 40);
        Due.is("wait", x.count(4), 1);
        Due.is("laid", x.count(5), 1);
        Due.is("count(6)", x.count(6), Due.BEYOND);
        Due.is("count(-1)", x.count(-1), Due.BEYOND);
    }

    private static void found() {
        PartRoom x = new PartRoom();
        Due.is("found(0)", x.found(0), Due.BEYOND);
        Due.is("counted, too", x.found(1), 1);
        Due.is("found(6)", x.found(6), Due.BEYOND);
        Due.is("found(-1)", x.found(-1), Due.BEYOND);
        Due.is("found(MIN)", x.found(Integer.MIN_VALUE), Due.BEYOND);
        Due.is("found(MAX)", x.found(Integer.MAX_VALUE), Due.BEYOND);
        Due.is("all counted", x.found(1), 5);
        x.voice(0, 0);
        x.rest(0, 0);
        x.stale(0);
        x.pages(0, 0);
        x.page(0, 0);
        x.free(0, 0);
        x.systems(0, 0);
        x.lay(0);
        Due.is("NONE", x.found(2), 7);
        Due.is("STATE", x.found(3), 0);
        x.as(0, 1);
        Due.is("KIND", x.found(5), 1);
        for (int i = 0; i < 41; i++) {
            x.bar(1);
            x.tell(1);
        }
        for (int i = 0; i < 6; i++) {
            x.voice(0, 0);
        }
        Due.is("FULL", x.found(4), 3);
        x.cue(0, 0);
        Due.is("NONE of cue", x.found(2), 8);
        x.check(9);
        x.count(9);
        Due.is("BEYOND", x.found(1), 7);
    }
}
