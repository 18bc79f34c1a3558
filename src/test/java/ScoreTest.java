/** Promises 1 to 8: a new object, and the score. */
final class ScoreTest {
    private ScoreTest() {
    }

    public static void main(String[] args) {
        newObject();
        bars();
        voices();
        kinds();
        notes();
        signs();
        cuts();
        stage();
        Due.end();
    }

    private static void newObject() {
        PartRoom x = new PartRoom();
        for (int what = 0; what <= 5; what++) {
            Due.is("new: count(" + what + ")", x.count(what), 0);
        }
        for (int k = 1; k <= 5; k++) {
            Due.is("new: found(" + k + ")", x.found(k), 0);
        }
        Due.is("new: key", x.key(0), 0);
        Due.is("new: due", x.due(8), 8);
        Due.is("new: need", x.need(5), 5);
        Due.is("new: written(0)", x.written(0), Due.BEYOND);
        Due.is("new: cue(0, 0)", x.cue(0, 0), Due.BEYOND);
        Due.is("new: sign(0, 0)", x.sign(0, 0), Due.BEYOND);
        PartRoom other = new PartRoom();
        x.bar(7);
        x.voice(0, 0);
        Due.is("another object's bars", other.count(0), 0);
        Due.is("another object's voices", other.count(1), 0);
        Due.is("another object's findings", other.found(1), 0);
    }

    private static void bars() {
        PartRoom x = new PartRoom();
        Due.is("bar(0)", x.bar(0), Due.BEYOND);
        Due.is("bar(-1)", x.bar(-1), Due.BEYOND);
        Due.is("bar(61)", x.bar(61), Due.BEYOND);
        Due.is("bar(MIN)", x.bar(Integer.MIN_VALUE), Due.BEYOND);
        Due.is("bar(MAX)", x.bar(Integer.MAX_VALUE), Due.BEYOND);
        Due.is("bars after findings", x.count(0), 0);
        Due.is("bar(1)", x.bar(1), 0);
        Due.is("bar(60)", x.bar(60), 1);
        Due.is("seconds", x.count(3), 61);
        for (int i = 2; i < 40; i++) {
            Due.is("bar " + i, x.bar(2), i);
        }
        Due.is("the 41st bar", x.bar(2), Due.FULL);
        Due.is("BEYOND is asked ahead of FULL", x.bar(0), Due.BEYOND);
        Due.is("bars when full", x.count(0), 40);
        Due.is("seconds when full", x.count(3), 61 + 76);
        Due.is("a bar has no sign at first", x.sign(39, 0), 0);
    }

    private static void voices() {
        PartRoom x = new PartRoom();
        Due.is("voice(-1, 0)", x.voice(-1, 0), Due.BEYOND);
        Due.is("voice(3, 0)", x.voice(3, 0), Due.BEYOND);
        Due.is("voice(0, 1)", x.voice(0, 1), Due.BEYOND);
        Due.is("voice(0, -1)", x.voice(0, -1), Due.BEYOND);
        Due.is("voice(1, 1)", x.voice(1, 1), Due.BEYOND);
        Due.is("voice(1, -1)", x.voice(1, -1), Due.BEYOND);
        Due.is("voice(2, 12)", x.voice(2, 12), Due.BEYOND);
        Due.is("voice(2, -12)", x.voice(2, -12), Due.BEYOND);
        Due.is("voice(2, MIN)", x.voice(2, Integer.MIN_VALUE), Due.BEYOND);
        Due.is("voice(2, 11)", x.voice(2, 11), 0);
        Due.is("voice(2, -11)", x.voice(2, -11), 1);
        Due.is("voice(2, 0)", x.voice(2, 0), 2);
        Due.is("voice(1, 0)", x.voice(1, 0), 3);
        Due.is("voice(0, 0)", x.voice(0, 0), 4);
        Due.is("voice(0, 0) again", x.voice(0, 0), 5);
        Due.is("the 7th voice", x.voice(0, 0), Due.FULL);
        Due.is("BEYOND is asked ahead of FULL", x.voice(0, 5), Due.BEYOND);
        Due.is("voices when full", x.count(1), 6);
    }

    private static void kinds() {
        PartRoom x = new PartRoom();
        x.voice(0, 0);
        x.voice(1, 0);
        x.voice(2, -4);
        Due.is("VOICE as VOICE", x.as(0, 0), 0);
        Due.is("VOICE as DESK", x.as(0, 1), Due.KIND);
        Due.is("VOICE as MOVER", x.as(0, 2), Due.KIND);
        Due.is("DESK as VOICE", x.as(1, 0), 0);
        Due.is("DESK as DESK", x.as(1, 1), 0);
        Due.is("DESK as MOVER", x.as(1, 2), Due.KIND);
        Due.is("MOVER as VOICE", x.as(2, 0), -4);
        Due.is("MOVER as DESK", x.as(2, 1), Due.KIND);
        Due.is("MOVER as MOVER", x.as(2, 2), -4);
        Due.is("as(3, 0)", x.as(3, 0), Due.BEYOND);
        Due.is("as(-1, 0)", x.as(-1, 0), Due.BEYOND);
        Due.is("as(0, 3)", x.as(0, 3), Due.BEYOND);
        Due.is("as(0, -1)", x.as(0, -1), Due.BEYOND);
        Due.is("KIND findings", x.found(5), 4);
    }

    private static void notes() {
        PartRoom x = Due.roomOf(2);
        x.voice(0, 0);
        x.voice(0, 0);
        Due.is("first notes", x.notes(0, 0, 16, 9), 0);
        Due.is("notes again", x.notes(0, 0, 1, 0), 16);
        Due.is("no notes", x.notes(0, 0, 0, 0), 1);
        Due.is("notes after none", x.notes(0, 0, 3, 3), 0);
        Due.is("the other bar", x.notes(0, 1, 4, 4), 0);
        Due.is("the other voice", x.notes(1, 0, 5, 5), 0);
        Due.is("no such voice", x.notes(2, 0, 1, 1), Due.BEYOND);
        Due.is("voice -1", x.notes(-1, 0, 1, 1), Due.BEYOND);
        Due.is("no such bar", x.notes(0, 2, 1, 1), Due.BEYOND);
        Due.is("bar -1", x.notes(0, -1, 1, 1), Due.BEYOND);
        Due.is("17 notes", x.notes(0, 0, 17, 1), Due.BEYOND);
        Due.is("-1 notes", x.notes(0, 0, -1, 0), Due.BEYOND);
        Due.is("loud 10", x.notes(0, 0, 1, 10), Due.BEYOND);
        Due.is("loud -1", x.notes(0, 0, 1, -1), Due.BEYOND);
        Due.is("0 notes, loud 1", x.notes(0, 0, 0, 1), Due.BEYOND);
        Due.is("0 notes, loud -1", x.notes(0, 0, 0, -1), Due.BEYOND);
        Due.is("findings changed nothing", x.notes(0, 0, 3, 3), 3);
        Due.is("each voice its own", x.notes(1, 1, 2, 2), 0);
    }

    private static void signs() {
        PartRoom x = Due.roomWithBars(5, 6);
        Due.is("sign(0, 7)", x.sign(0, 7), 0);
        Due.is("a CUT by sign", x.count(2), 1);
        Due.is("seconds left", x.count(3), 6);
        Due.is("sign(0, 3)", x.sign(0, 3), 7);
        Due.is("no CUT any more", x.count(2), 0);
        Due.is("sign(0, 4)", x.sign(0, 4), 3);
        Due.is("sign(0, 0)", x.sign(0, 0), 4);
        Due.is("sign(0, 8)", x.sign(0, 8), Due.BEYOND);
        Due.is("sign(0, -1)", x.sign(0, -1), Due.BEYOND);
        Due.is("sign(2, 0)", x.sign(2, 0), Due.BEYOND);
        Due.is("sign(-1, 0)", x.sign(-1, 0), Due.BEYOND);
        Due.is("the other bar", x.sign(1, 1), 0);
        Due.is("findings changed nothing", x.sign(0, 0), 0);
    }

    private static void cuts() {
        PartRoom x = Due.roomWithBars(1, 2, 4, 8, 16);
        Due.is("cut(1, 3, 1)", x.cut(1, 3, 1), 3);
        Due.is("seconds left", x.count(3), 17);
        Due.is("cut(0, 2, 1)", x.cut(0, 2, 1), 1);
        Due.is("cut(0, 2, 1) again", x.cut(0, 2, 1), 0);
        Due.is("cut(2, 4, 0)", x.cut(2, 4, 0), 2);
        Due.is("cut bars", x.count(2), 2);
        Due.is("cut(4, 4, 1)", x.cut(4, 4, 1), 1);
        Due.is("cut keeps sign and letter: set", x.sign(4, 3), 4);
        Due.is("cut keeps sign and letter: cut", x.cut(4, 4, 1), 1);
        Due.is("cut keeps sign and letter: told", x.sign(4, 0), 7);
        Due.is("cut(2, 1, 1)", x.cut(2, 1, 1), Due.BEYOND);
        Due.is("cut(0, 5, 1)", x.cut(0, 5, 1), Due.BEYOND);
        Due.is("cut(-1, 2, 1)", x.cut(-1, 2, 1), Due.BEYOND);
        Due.is("cut(5, 5, 1)", x.cut(5, 5, 1), Due.BEYOND);
        Due.is("cut(0, 0, 2)", x.cut(0, 0, 2), Due.BEYOND);
        Due.is("cut(0, 0, -1)", x.cut(0, 0, -1), Due.BEYOND);
        Due.is("cut(0, MAX, 1)", x.cut(0, Integer.MAX_VALUE, 1), Due.BEYOND);
        Due.is("findings changed nothing", x.count(2), 2);
    }

    private static void stage() {
        PartRoom x = new PartRoom();
        x.voice(0, 0);
        x.voice(0, 0);
        Due.is("on stage at first", x.stage(0, 0), 1);
        Due.is("off", x.stage(0, 0), 0);
        Due.is("back", x.stage(0, 1), 0);
        Due.is("on", x.stage(0, 1), 1);
        Due.is("stage(0, 2)", x.stage(0, 2), Due.BEYOND);
        Due.is("stage(0, -1)", x.stage(0, -1), Due.BEYOND);
        Due.is("stage(2, 1)", x.stage(2, 1), Due.BEYOND);
        Due.is("stage(-1, 1)", x.stage(-1, 1), Due.BEYOND);
        Due.is("the other voice", x.stage(1, 1), 1);
        Due.is("findings changed nothing", x.stage(0, 1), 1);
    }
}
