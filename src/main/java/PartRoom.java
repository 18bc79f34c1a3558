/**
 * Parts drawn out of a score. Each public method is one act of the document;
 * the classes inside hold the score, one drawn part, and its pages.
 */
public final class PartRoom {
    private static final int LOW = -1000000;
    private static final int BEYOND = LOW - 1;
    private static final int NONE = LOW - 2;
    private static final int FULL = LOW - 4;
    private static final int KIND = LOW - 5;
    private static final int FINDINGS = 5;

    private static final int MAX_BARS = 40;
    private static final int MAX_VOICES = 6;
    private static final int MAX_TOLD = 40;
    private static final int MAX_NOTES = 16;
    private static final int MAX_LOUD = 9;
    private static final int MAX_SHIFT = 11;

    private static final int PLAIN = 0;
    private static final int DESK = 1;
    private static final int MOVER = 2;

    private static final int SIGN = 1;
    private static final int LETTER = 2;
    private static final int CUT = 4;

    private static final int TOO_MANY_TOLD = 99;

    private final Score score;
    private final Part part;
    private final Layout layout;
    private final Told told;
    private final int[] findings;
    private int keyFifths;
    private int dueBars;
    private int paperWidth;
    private int paperLines;
    private int needSeconds;

    public PartRoom() {
        score = new Score();
        part = new Part(score);
        layout = new Layout(part);
        told = new Told();
        findings = new int[FINDINGS + 1];
        keyFifths = 0;
        dueBars = 8;
        paperWidth = 40;
        paperLines = 4;
        needSeconds = 5;
    }

    // ---- the score

    public int bar(int seconds) {
        if (!within(seconds, 1, 60)) {
            return answer(BEYOND);
        }
        return answer(score.addBar(seconds));
    }

    public int voice(int kind, int shift) {
        int most = kind == MOVER ? MAX_SHIFT : 0;
        if (!within(kind, PLAIN, MOVER) || !within(shift, -most, most)) {
            return answer(BEYOND);
        }
        return answer(score.addVoice(kind, shift));
    }

    public int as(int voice, int kind) {
        Voice v = score.voiceAt(voice);
        if (v == null || !within(kind, PLAIN, MOVER)) {
            return answer(BEYOND);
        }
        return answer(v.isOf(kind) ? v.shift : KIND);
    }

    public int notes(int voice, int bar, int notes, int loud) {
        Voice v = score.voiceAt(voice);
        if (v == null || !score.hasBar(bar) || !within(notes, 0, MAX_NOTES)) {
            return answer(BEYOND);
        }
        if (!within(loud, 0, notes == 0 ? 0 : MAX_LOUD)) {
            return answer(BEYOND);
        }
        int before = v.notes[bar];
        v.notes[bar] = notes;
        v.loud[bar] = loud;
        return answer(before);
    }

    public int sign(int bar, int bits) {
        if (!score.hasBar(bar) || !within(bits, 0, SIGN + LETTER + CUT)) {
            return answer(BEYOND);
        }
        int before = score.bits[bar];
        score.bits[bar] = bits;
        return answer(before);
    }

    public int cut(int from, int to, int is) {
        if (!score.hasBar(from) || !score.hasBar(to) || from > to || !within(is, 0, 1)) {
            return answer(BEYOND);
        }
        return answer(score.setCut(from, to, is == 1));
    }

    public int stage(int voice, int is) {
        Voice v = score.voiceAt(voice);
        if (v == null || !within(is, 0, 1)) {
            return answer(BEYOND);
        }
        int before = v.onStage ? 1 : 0;
        v.onStage = is == 1;
        return answer(before);
    }

    // ---- parts

    public int rest(int voice, int i) {
        if (score.voiceAt(voice) == null || i < 0) {
            return answer(BEYOND);
        }
        part.draw(voice, dueBars);
        return answer(part.restsAt(i));
    }

    public int cue(int voice, int bar) {
        if (score.voiceAt(voice) == null || !score.hasBar(bar)) {
            return answer(BEYOND);
        }
        part.draw(voice, dueBars);
        return answer(part.cueAt(part.placeOf(bar)));
    }

    public int key(int fifths) {
        if (!within(fifths, -7, 7)) {
            return answer(BEYOND);
        }
        int before = keyFifths;
        keyFifths = fifths;
        return answer(before);
    }

    public int written(int voice) {
        Voice v = score.voiceAt(voice);
        if (v == null) {
            return answer(BEYOND);
        }
        return answer(Math.floorMod(keyFifths + 7 * v.shift + 6, 12) - 6);
    }

    public int due(int bars) {
        if (!within(bars, 1, 20)) {
            return answer(BEYOND);
        }
        int before = dueBars;
        dueBars = bars;
        return answer(before);
    }

    // ---- pages

    public int paper(int width, int lines) {
        if (!within(width, 21, 60) || !within(lines, 1, 8)) {
            return answer(BEYOND);
        }
        paperWidth = width;
        paperLines = lines;
        return answer(1);
    }

    public int need(int seconds) {
        if (!within(seconds, 0, 60)) {
            return answer(BEYOND);
        }
        int before = needSeconds;
        needSeconds = seconds;
        return answer(before);
    }

    public int pages(int voice, int what) {
        Voice v = score.voiceAt(voice);
        if (v == null || !within(what, 0, 1)) {
            return answer(BEYOND);
        }
        plan(voice, v);
        if (layout.pageCount() == 0) {
            return answer(NONE);
        }
        return answer(what == 0 ? layout.pageCount() : layout.badTurns());
    }

    public int page(int voice, int i) {
        Voice v = score.voiceAt(voice);
        if (v == null || i < 0) {
            return answer(BEYOND);
        }
        plan(voice, v);
        return answer(layout.firstBar(i));
    }

    public int free(int voice, int i) {
        Voice v = score.voiceAt(voice);
        if (v == null || i < 0) {
            return answer(BEYOND);
        }
        plan(voice, v);
        return answer(layout.freeBehind(i));
    }

    public int systems(int voice, int i) {
        Voice v = score.voiceAt(voice);
        if (v == null || i < 0) {
            return answer(BEYOND);
        }
        plan(voice, v);
        return answer(layout.systemsOf(i));
    }

    public int lay(int voice) {
        Voice v = score.voiceAt(voice);
        if (v == null) {
            return answer(BEYOND);
        }
        plan(voice, v);
        if (layout.pageCount() == 0) {
            return answer(NONE);
        }
        v.keepLaid(score, layout);
        return answer(v.laidPages);
    }

    public int stale(int voice) {
        Voice v = score.voiceAt(voice);
        if (v == null) {
            return answer(BEYOND);
        }
        return answer(v.laidPages == 0 ? NONE : v.stalePages(score));
    }

    // ---- what is told

    public int tell(int v) {
        return answer(told.add(v));
    }

    public int check(int voice) {
        int waited = told.takeAll();
        if (score.voiceAt(voice) == null) {
            return answer(BEYOND);
        }
        part.draw(voice, dueBars);
        return answer(told.compare(waited, part));
    }

    public int count(int what) {
        switch (what) {
            case 0:
                return answer(score.barCount);
            case 1:
                return answer(score.voiceCount);
            case 2:
                return answer(score.cutBars());
            case 3:
                return answer(score.secondsLeft());
            case 4:
                return answer(told.waiting);
            case 5:
                return answer(score.laidVoices());
            default:
                return answer(BEYOND);
        }
    }

    public int found(int k) {
        if (!within(k, 1, FINDINGS)) {
            return answer(BEYOND);
        }
        return findings[k];
    }

    private static boolean within(int x, int least, int most) {
        return least <= x && x <= most;
    }

    // Every act answers through here, so that no finding goes uncounted.
    private int answer(int result) {
        if (within(result, LOW - FINDINGS, LOW - 1)) {
            findings[LOW - result]++;
        }
        return result;
    }

    // Planned anew for each call: any act in between may have moved the pages.
    private void plan(int voice, Voice v) {
        part.draw(voice, dueBars);
        layout.plan(paperWidth, paperLines, v.needOf(needSeconds));
    }

    /** One voice of the score, with its pages as they were laid. */
    private static final class Voice {
        private final int kind;
        private final int shift;
        private final int[] notes;
        private final int[] loud;
        private boolean onStage;
        private final int[] laidFirsts;
        private final int[] laidMarks;
        private int laidPages;

        Voice(int kind, int shift) {
            this.kind = kind;
            this.shift = shift;
            notes = new int[MAX_BARS];
            loud = new int[MAX_BARS];
            onStage = true;
            laidFirsts = new int[MAX_BARS];
            laidMarks = new int[MAX_BARS];
            laidPages = 0;
        }

        boolean isOf(int asked) {
            return asked == PLAIN || asked == kind;
        }

        int needOf(int seconds) {
            return kind == DESK ? seconds / 2 : seconds;
        }

        // All that can make a laid bar stale, in one number; a bar that isn't
        // there (cut, or not yet come) is -1, so that coming and going differ.
        private int markOf(Score score, int bar) {
            if (!score.isThere(bar)) {
                return -1;
            }
            return (notes[bar] * 16 + loud[bar]) * 4 + (score.bits[bar] & (SIGN | LETTER));
        }

        void keepLaid(Score score, Layout layout) {
            laidPages = layout.pageCount();
            for (int i = 0; i < laidPages; i++) {
                laidFirsts[i] = layout.firstBar(i);
            }
            for (int b = 0; b < MAX_BARS; b++) {
                laidMarks[b] = markOf(score, b);
            }
        }

        // Bars ahead of the first page count as the first page's.
        int stalePages(Score score) {
            int stale = 0;
            int page = 0;
            int lastStale = -1;
            for (int b = 0; b < MAX_BARS; b++) {
                if (page + 1 < laidPages && laidFirsts[page + 1] == b) {
                    page++;
                }
                if (lastStale != page && laidMarks[b] != markOf(score, b)) {
                    lastStale = page;
                    stale++;
                }
            }
            return stale;
        }
    }

    /** The bars and the voices. */
    private static final class Score {
        private final int[] seconds;
        private final int[] bits;
        private final Voice[] voices;
        private int barCount;
        private int voiceCount;

        Score() {
            seconds = new int[MAX_BARS];
            bits = new int[MAX_BARS];
            voices = new Voice[MAX_VOICES];
            barCount = 0;
            voiceCount = 0;
        }

        int addBar(int itsSeconds) {
            if (barCount >= MAX_BARS) {
                return FULL;
            }
            seconds[barCount] = itsSeconds;
            barCount++;
            return barCount - 1;
        }

        int addVoice(int kind, int shift) {
            if (voiceCount >= MAX_VOICES) {
                return FULL;
            }
            voices[voiceCount] = new Voice(kind, shift);
            voiceCount++;
            return voiceCount - 1;
        }

        boolean hasBar(int bar) {
            return bar >= 0 && bar < barCount;
        }

        boolean isThere(int bar) {
            return hasBar(bar) && (bits[bar] & CUT) == 0;
        }

        // Null where there is no such voice.
        Voice voiceAt(int voice) {
            return voice >= 0 && voice < voiceCount ? voices[voice] : null;
        }

        // Callers have asked that both bars are there.
        int setCut(int from, int to, boolean is) {
            int changed = 0;
            for (int b = from; b <= to && b < barCount; b++) {
                if (isThere(b) == is) {
                    bits[b] ^= CUT;
                    changed++;
                }
            }
            return changed;
        }

        int cutBars() {
            int cut = 0;
            for (int b = 0; b < barCount; b++) {
                if (!isThere(b)) {
                    cut++;
                }
            }
            return cut;
        }

        int secondsLeft() {
            int sum = 0;
            for (int b = 0; b < barCount; b++) {
                if (isThere(b)) {
                    sum += seconds[b];
                }
            }
            return sum;
        }

        int laidVoices() {
            int laid = 0;
            for (int i = 0; i < voiceCount; i++) {
                Voice v = voices[i];
                if (v != null && v.laidPages > 0) {
                    laid++;
                }
            }
            return laid;
        }
    }

    /**
     * What one voice has before it: the bars that aren't cut, one behind the
     * other in places 0, 1, .. Its rows are used again for each drawing.
     */
    private static final class Part {
        private final Score score;
        private final int[] bars;
        private final int[] notes;
        private int size;
        private int self;
        private int due;

        Part(Score score) {
            this.score = score;
            bars = new int[MAX_BARS];
            notes = new int[MAX_BARS];
            size = 0;
            self = 0;
            due = 1;
        }

        void draw(int voice, int dueBars) {
            self = voice;
            due = dueBars;
            size = 0;
            Voice v = score.voiceAt(voice);
            if (v == null) {
                return;
            }
            for (int b = 0; b < MAX_BARS; b++) {
                if (score.isThere(b)) {
                    bars[size] = b;
                    notes[size] = v.notes[b];
                    size++;
                }
            }
        }

        private boolean has(int place) {
            return place >= 0 && place < size;
        }

        boolean rests(int place) {
            return place >= 0 && place < size && notes[place] == 0;
        }

        boolean plays(int place) {
            return place >= 0 && place < size && notes[place] > 0;
        }

        private boolean bears(int place, int marks) {
            return has(place) && (score.bits[bars[place]] & marks) != 0;
        }

        boolean opensRests(int place) {
            if (!rests(place)) {
                return false;
            }
            return !rests(place - 1) || bears(place, SIGN | LETTER) || bears(place - 1, SIGN);
        }

        int restsLength(int place) {
            int length = 1;
            for (int p = place + 1; p < size && rests(p) && !opensRests(p); p++) {
                length++;
            }
            return length;
        }

        int restsAt(int i) {
            int left = i;
            for (int p = 0; p < size; p++) {
                if (opensRests(p)) {
                    if (left == 0) {
                        return 100 * bars[p] + restsLength(p);
                    }
                    left--;
                }
            }
            return NONE;
        }

        // -1 where the bar is cut.
        int placeOf(int bar) {
            for (int p = 0; p < size; p++) {
                if (bars[p] == bar) {
                    return p;
                }
            }
            return -1;
        }

        int barAt(int place) {
            return has(place) ? bars[place] : NONE;
        }

        int secondsAt(int place) {
            return has(place) ? score.seconds[bars[place]] : 0;
        }

        int notesAt(int place) {
            return has(place) ? notes[place] : 0;
        }

        int cueAt(int place) {
            if (!plays(place) || !restsAhead(place)) {
                return NONE;
            }
            int loudest = NONE;
            int most = 0;
            for (int v = 0; v < score.voiceCount; v++) {
                int heard = v == self ? 0 : heardAhead(v, place);
                if (heard > most) {
                    most = heard;
                    loudest = v;
                }
            }
            return loudest;
        }

        private boolean restsAhead(int place) {
            for (int p = place - due; p < place; p++) {
                if (!rests(p)) {
                    return false;
                }
            }
            return true;
        }

        private int heardAhead(int voice, int place) {
            Voice v = score.voiceAt(voice);
            if (v == null || !v.onStage) {
                return 0;
            }
            int heard = 0;
            for (int p = place - Math.min(due, 2); p < place; p++) {
                if (has(p)) {
                    heard += v.loud[bars[p]];
                }
            }
            return heard;
        }
    }

    /** The pages of the part that was drawn last. */
    private static final class Layout {
        private final Part part;
        private final int[] widths;
        // FREE of a turn that would stand right ahead of each place.
        private final int[] freeAhead;
        private final int[] systemsTo;
        // From each place on: the fewest bad turns, the fewest pages with
        // them, the place where the page behind the first one begins, and how
        // many systems that first one has.
        private final int[] badFrom;
        private final int[] pagesFrom;
        private final int[] nextFrom;
        private final int[] systemsFrom;
        private int width;
        private int lines;
        private int need;

        Layout(Part part) {
            this.part = part;
            widths = new int[MAX_BARS];
            freeAhead = new int[MAX_BARS];
            systemsTo = new int[MAX_BARS];
            badFrom = new int[MAX_BARS + 1];
            pagesFrom = new int[MAX_BARS + 1];
            nextFrom = new int[MAX_BARS + 1];
            systemsFrom = new int[MAX_BARS];
            width = 0;
            lines = 0;
            need = 0;
        }

        void plan(int itsWidth, int itsLines, int itsNeed) {
            width = itsWidth;
            lines = itsLines;
            need = itsNeed;
            measure();
            timeTurns();
            int end = part.size;
            badFrom[end] = 0;
            pagesFrom[end] = 0;
            nextFrom[end] = end;
            for (int p = end - 1; p >= 0; p--) {
                chooseFrom(p);
            }
        }

        // Widths of bars that stand behind another one in their system.
        private void measure() {
            for (int p = 0; p < part.size; p++) {
                if (part.plays(p)) {
                    widths[p] = 2 + part.notesAt(p) + (part.cueAt(p) >= 0 ? 3 : 0);
                } else {
                    widths[p] = part.opensRests(p) ? 4 : 0;
                }
            }
        }

        private void timeTurns() {
            int ahead = 0;
            for (int p = 0; p < part.size; p++) {
                freeAhead[p] = ahead;
                ahead = part.rests(p) ? ahead + part.secondsAt(p) : 0;
            }
            int behind = 0;
            for (int p = part.size - 1; p >= 0; p--) {
                behind = part.rests(p) ? behind + part.secondsAt(p) : 0;
                freeAhead[p] += behind;
            }
        }

        // A rest is written anew where its system begins.
        private int widthAsFirst(int place) {
            return part.rests(place) ? 4 : widths[place];
        }

        // Fills a page from a place on as far as its lines go, and keeps how
        // many systems it has up to each place; answers the place behind it.
        private int fill(int from) {
            int used = widthAsFirst(from);
            int systems = 1;
            systemsTo[from] = 1;
            for (int p = from + 1; p < part.size; p++) {
                if (used + widths[p] <= width) {
                    used += widths[p];
                } else {
                    used = widthAsFirst(p);
                    systems++;
                }
                if (systems > lines) {
                    return p;
                }
                systemsTo[p] = systems;
            }
            return part.size;
        }

        // Shorter first pages are asked first, and only a better way replaces
        // one that was found: so the first page keeps the fewest bars.
        private void chooseFrom(int place) {
            int furthest = fill(place);
            for (int next = place + 1; next <= furthest; next++) {
                int bad = badFrom[next] + (isBadTurn(next) ? 1 : 0);
                int pages = pagesFrom[next] + 1;
                boolean better = next == place + 1
                        || bad < badFrom[place]
                        || bad == badFrom[place] && pages < pagesFrom[place];
                if (better) {
                    badFrom[place] = bad;
                    pagesFrom[place] = pages;
                    nextFrom[place] = next;
                    systemsFrom[place] = systemsTo[next - 1];
                }
            }
        }

        // The end of the part is no turn.
        private boolean isBadTurn(int place) {
            return place < part.size && freeAhead[place] < need;
        }

        int pageCount() {
            return pagesFrom[0];
        }

        int badTurns() {
            return badFrom[0];
        }

        // The end of the part where there is no such page.
        private int placeOfPage(int i) {
            if (i >= pageCount()) {
                return part.size;
            }
            int place = 0;
            for (int k = 0; k < i; k++) {
                place = nextFrom[place];
            }
            return place;
        }

        int firstBar(int i) {
            return part.barAt(placeOfPage(i));
        }

        int freeBehind(int i) {
            int next = nextFrom[placeOfPage(i)];
            return next < part.size ? freeAhead[next] : NONE;
        }

        int systemsOf(int i) {
            int place = placeOfPage(i);
            return place < part.size ? systemsFrom[place] : NONE;
        }
    }

    /** The numbers that wait. */
    private static final class Told {
        private final int[] numbers;
        private int waiting;

        Told() {
            numbers = new int[MAX_TOLD];
            waiting = 0;
        }

        int add(int v) {
            if (waiting >= MAX_TOLD) {
                return FULL;
            }
            numbers[waiting] = v;
            waiting++;
            return waiting;
        }

        // How many waited; none do from now on, but they can still be compared.
        int takeAll() {
            int waited = waiting;
            waiting = 0;
            return waited;
        }

        int compare(int waited, Part part) {
            int i = 0;
            for (int p = 0; p < part.size; p++) {
                if (part.plays(p) || part.opensRests(p)) {
                    int want = part.plays(p) ? part.notesAt(p) : -part.restsLength(p);
                    if (i >= waited || i >= MAX_TOLD || numbers[i] != want) {
                        return 1 + i;
                    }
                    i++;
                }
            }
            return i < waited ? TOO_MANY_TOLD : 0;
        }
    }
}
