import java.util.ArrayList;
import java.util.List;

/**
 * The document once more, written for plainness and not for speed: lists of
 * small objects, and every way to part the bars is looked at, one by one.
 */
final class Model {
    private static final int BEYOND = Due.BEYOND;
    private static final int NONE = Due.NONE;

    private static final class Bar {
        final int seconds;
        boolean sign;
        boolean letter;
        boolean cut;

        Bar(int seconds) {
            this.seconds = seconds;
        }
    }

    private static final class Voice {
        final int kind;
        final int shift;
        final int[] notes = new int[40];
        final int[] loud = new int[40];
        boolean onStage = true;
        List<Integer> laid = null;
        List<Bar> laidBars = null;
        int[] laidNotes = null;
        int[] laidLoud = null;

        Voice(int kind, int shift) {
            this.kind = kind;
            this.shift = shift;
        }
    }

    /** One way to part the bars into pages: for each page how many bars. */
    private static final class Way {
        final int bad;
        final List<Integer> sizes;

        Way(int bad, List<Integer> sizes) {
            this.bad = bad;
            this.sizes = sizes;
        }

        boolean betterThan(Way other) {
            if (bad != other.bad) {
                return bad < other.bad;
            }
            if (sizes.size() != other.sizes.size()) {
                return sizes.size() < other.sizes.size();
            }
            for (int i = 0; i < sizes.size(); i++) {
                int here = sizes.get(i);
                int there = other.sizes.get(i);
                if (here != there) {
                    return here < there;
                }
            }
            return false;
        }
    }

    private final List<Bar> bars = new ArrayList<>();
    private final List<Voice> voices = new ArrayList<>();
    private final List<Integer> told = new ArrayList<>();
    private final int[] findings = new int[6];
    private int key = 0;
    private int due = 8;
    private int width = 40;
    private int lines = 4;
    private int need = 5;

    /** The answer to a call by its name, with the findings counted. */
    int call(String name, int[] a) {
        int answer = answerTo(name, a);
        if (answer < -1000000) {
            findings[-1000000 - answer]++;
        }
        return answer;
    }

    private int answerTo(String name, int[] a) {
        switch (name) {
            case "bar":
                return bar(a[0]);
            case "voice":
                return voice(a[0], a[1]);
            case "as":
                return as(a[0], a[1]);
            case "notes":
                return notes(a);
            case "sign":
                return sign(a[0], a[1]);
            case "cut":
                return cut(a[0], a[1], a[2]);
            case "stage":
                return stage(a[0], a[1]);
            case "rest":
                return rest(a[0], a[1]);
            case "cue":
                return cue(a[0], a[1]);
            case "key":
                return key(a[0]);
            case "written":
                return written(a[0]);
            case "due":
                return due(a[0]);
            case "paper":
                return paper(a[0], a[1]);
            case "need":
                return need(a[0]);
            case "pages":
                return pages(a[0], a[1]);
            case "page":
                return page(a[0], a[1]);
            case "free":
                return free(a[0], a[1]);
            case "systems":
                return systems(a[0], a[1]);
            case "lay":
                return lay(a[0]);
            case "stale":
                return stale(a[0]);
            case "tell":
                return tell(a[0]);
            case "check":
                return check(a[0]);
            case "count":
                return count(a[0]);
            case "found":
                return a[0] < 1 || a[0] > 5 ? BEYOND : findings[a[0]];
            default:
                throw new IllegalArgumentException(name);
        }
    }

    private boolean noVoice(int v) {
        return v < 0 || v >= voices.size();
    }

    private boolean noBar(int b) {
        return b < 0 || b >= bars.size();
    }

    private int bar(int seconds) {
        if (seconds < 1 || seconds > 60) {
            return BEYOND;
        }
        if (bars.size() == 40) {
            return Due.FULL;
        }
        bars.add(new Bar(seconds));
        return bars.size() - 1;
    }

    private int voice(int kind, int shift) {
        if (kind < 0 || kind > 2 || kind < 2 && shift != 0 || shift < -11 || shift > 11) {
            return BEYOND;
        }
        if (voices.size() == 6) {
            return Due.FULL;
        }
        voices.add(new Voice(kind, shift));
        return voices.size() - 1;
    }

    private int as(int v, int kind) {
        if (noVoice(v) || kind < 0 || kind > 2) {
            return BEYOND;
        }
        if (kind != 0 && voices.get(v).kind != kind) {
            return Due.KIND;
        }
        return voices.get(v).shift;
    }

    private int notes(int[] a) {
        if (noVoice(a[0]) || noBar(a[1]) || a[2] < 0 || a[2] > 16 || a[3] < 0 || a[3] > 9) {
            return BEYOND;
        }
        if (a[2] == 0 && a[3] != 0) {
            return BEYOND;
        }
        Voice v = voices.get(a[0]);
        int before = v.notes[a[1]];
        v.notes[a[1]] = a[2];
        v.loud[a[1]] = a[3];
        return before;
    }

    private int sign(int b, int bits) {
        if (noBar(b) || bits < 0 || bits > 7) {
            return BEYOND;
        }
        Bar bar = bars.get(b);
        int before = (bar.sign ? 1 : 0) + (bar.letter ? 2 : 0) + (bar.cut ? 4 : 0);
        bar.sign = bits % 2 == 1;
        bar.letter = bits / 2 % 2 == 1;
        bar.cut = bits / 4 == 1;
        return before;
    }

    private int cut(int from, int to, int is) {
        if (noBar(from) || noBar(to) || from > to || is != 0 && is != 1) {
            return BEYOND;
        }
        int changed = 0;
        for (Bar bar : bars.subList(from, to + 1)) {
            if (bar.cut != (is == 1)) {
                bar.cut = is == 1;
                changed++;
            }
        }
        return changed;
    }

    private int stage(int v, int is) {
        if (noVoice(v) || is != 0 && is != 1) {
            return BEYOND;
        }
        int before = voices.get(v).onStage ? 1 : 0;
        voices.get(v).onStage = is == 1;
        return before;
    }

    private List<Integer> thereNow() {
        List<Integer> there = new ArrayList<>();
        for (int b = 0; b < bars.size(); b++) {
            if (!bars.get(b).cut) {
                there.add(b);
            }
        }
        return there;
    }

    /** For each of the RESTS its bars. */
    private List<List<Integer>> allRests(Voice v) {
        List<List<Integer>> all = new ArrayList<>();
        List<Integer> open = null;
        for (int b : thereNow()) {
            if (v.notes[b] > 0) {
                open = null;
                continue;
            }
            if (open == null || bars.get(b).sign || bars.get(b).letter) {
                open = new ArrayList<>();
                all.add(open);
            }
            open.add(b);
            if (bars.get(b).sign) {
                open = null;
            }
        }
        return all;
    }

    private int rest(int v, int i) {
        if (noVoice(v) || i < 0) {
            return BEYOND;
        }
        List<List<Integer>> all = allRests(voices.get(v));
        return i < all.size() ? 100 * all.get(i).get(0) + all.get(i).size() : NONE;
    }

    private int cue(int v, int bar) {
        return noVoice(v) || noBar(bar) ? BEYOND : cueFor(v, bar);
    }

    private int cueFor(int v, int bar) {
        List<Integer> there = thereNow();
        int place = there.indexOf(bar);
        if (place < due || voices.get(v).notes[bar] == 0) {
            return NONE;
        }
        for (int b : there.subList(place - due, place)) {
            if (voices.get(v).notes[b] > 0) {
                return NONE;
            }
        }
        int best = NONE;
        int most = 0;
        for (int w = voices.size() - 1; w >= 0; w--) {
            int sum = voices.get(w).loud[there.get(place - 1)];
            if (due > 1) {
                sum += voices.get(w).loud[there.get(place - 2)];
            }
            if (w != v && voices.get(w).onStage && sum > 0 && sum >= most) {
                most = sum;
                best = w;
            }
        }
        return best;
    }

    private int key(int fifths) {
        if (fifths < -7 || fifths > 7) {
            return BEYOND;
        }
        int before = key;
        key = fifths;
        return before;
    }

    private int written(int v) {
        if (noVoice(v)) {
            return BEYOND;
        }
        int fifths = key + 7 * voices.get(v).shift;
        while (fifths >= 6) {
            fifths -= 12;
        }
        while (fifths < -6) {
            fifths += 12;
        }
        return fifths;
    }

    private int due(int n) {
        if (n < 1 || n > 20) {
            return BEYOND;
        }
        int before = due;
        due = n;
        return before;
    }

    private int paper(int w, int l) {
        if (w < 21 || w > 60 || l < 1 || l > 8) {
            return BEYOND;
        }
        width = w;
        lines = l;
        return 1;
    }

    private int need(int n) {
        if (n < 0 || n > 60) {
            return BEYOND;
        }
        int before = need;
        need = n;
        return before;
    }

    /** The systems of a page that holds just these bars. */
    private List<List<Integer>> systemsOf(int v, List<Integer> page) {
        List<List<Integer>> systems = new ArrayList<>();
        List<Integer> open = new ArrayList<>();
        systems.add(open);
        for (int b : page) {
            open.add(b);
            if (widthOf(v, open) > width) {
                open.remove(open.size() - 1);
                open = new ArrayList<>();
                open.add(b);
                systems.add(open);
            }
        }
        return systems;
    }

    private int widthOf(int v, List<Integer> system) {
        Voice voice = voices.get(v);
        int sum = 0;
        for (int b : system) {
            if (voice.notes[b] > 0) {
                sum += 2 + voice.notes[b] + (cueFor(v, b) == NONE ? 0 : 3);
            }
        }
        for (List<Integer> rests : allRests(voice)) {
            boolean some = false;
            for (int b : rests) {
                some |= system.contains(b);
            }
            sum += some ? 4 : 0;
        }
        return sum;
    }

    private int freeAt(Voice v, List<Integer> there, int place) {
        int from = place;
        while (from > 0 && v.notes[there.get(from - 1)] == 0) {
            from--;
        }
        int to = place;
        while (to < there.size() && v.notes[there.get(to)] == 0) {
            to++;
        }
        int sum = 0;
        for (int b : there.subList(from, to)) {
            sum += bars.get(b).seconds;
        }
        return sum;
    }

    private boolean isBad(Voice v, List<Integer> there, int place) {
        return freeAt(v, there, place) < (v.kind == 1 ? need / 2 : need);
    }

    /** How far a page that begins at a place can go. */
    private int reach(int v, List<Integer> there, int from) {
        int to = from + 1;
        while (to < there.size() && systemsOf(v, there.subList(from, to + 1)).size() <= lines) {
            to++;
        }
        return to;
    }

    /** THE PAGES as places where they begin; empty if there are none. */
    private Way best(int v) {
        List<Integer> there = thereNow();
        int[] reaches = new int[there.size()];
        boolean[] bad = new boolean[there.size()];
        for (int p = 0; p < there.size(); p++) {
            reaches[p] = reach(v, there, p);
            bad[p] = isBad(voices.get(v), there, p);
        }
        Way best = null;
        if (there.size() <= 11) {
            for (int mask = 0; mask < 1 << Math.max(0, there.size() - 1); mask++) {
                Way way = wayOf(mask, reaches, bad);
                if (way != null && (best == null || way.betterThan(best))) {
                    best = way;
                }
            }
            return best;
        }
        return bestOfTails(reaches, bad);
    }

    /** The way that turns ahead of each place whose bit is set; null if a page is too long. */
    private static Way wayOf(int mask, int[] reaches, boolean[] bad) {
        List<Integer> sizes = new ArrayList<>();
        int badTurns = 0;
        int from = 0;
        for (int p = 1; p <= reaches.length; p++) {
            boolean turn = p < reaches.length && (mask >> p - 1 & 1) == 1;
            if (turn || p == reaches.length) {
                if (p > reaches[from]) {
                    return null;
                }
                sizes.add(p - from);
                badTurns += turn && bad[p] ? 1 : 0;
                from = p;
            }
        }
        return new Way(badTurns, sizes);
    }

    /** Too many ways to look at each: whole ways are joined from the best ways of their tails. */
    private static Way bestOfTails(int[] reaches, boolean[] bad) {
        int n = reaches.length;
        Way[] tails = new Way[n + 1];
        tails[n] = new Way(0, new ArrayList<>());
        for (int p = n - 1; p >= 0; p--) {
            for (int q = reaches[p]; q > p; q--) {
                List<Integer> sizes = new ArrayList<>();
                sizes.add(q - p);
                sizes.addAll(tails[q].sizes);
                Way way = new Way(tails[q].bad + (q < n && bad[q] ? 1 : 0), sizes);
                if (tails[p] == null || way.betterThan(tails[p])) {
                    tails[p] = way;
                }
            }
        }
        return tails[0];
    }

    /** The places where the pages begin, and the end. */
    private static List<Integer> begins(Way way) {
        List<Integer> begins = new ArrayList<>();
        int place = 0;
        begins.add(0);
        for (int size : way.sizes) {
            place += size;
            begins.add(place);
        }
        return begins;
    }

    private int pages(int v, int what) {
        if (noVoice(v) || what != 0 && what != 1) {
            return BEYOND;
        }
        if (thereNow().isEmpty()) {
            return NONE;
        }
        Way way = best(v);
        return what == 0 ? way.sizes.size() : way.bad;
    }

    private int page(int v, int i) {
        if (noVoice(v) || i < 0) {
            return BEYOND;
        }
        if (thereNow().isEmpty() || i >= best(v).sizes.size()) {
            return NONE;
        }
        return thereNow().get(begins(best(v)).get(i));
    }

    private int free(int v, int i) {
        if (noVoice(v) || i < 0) {
            return BEYOND;
        }
        if (thereNow().isEmpty() || i >= best(v).sizes.size() - 1) {
            return NONE;
        }
        return freeAt(voices.get(v), thereNow(), begins(best(v)).get(i + 1));
    }

    private int systems(int v, int i) {
        if (noVoice(v) || i < 0) {
            return BEYOND;
        }
        if (thereNow().isEmpty() || i >= best(v).sizes.size()) {
            return NONE;
        }
        List<Integer> begins = begins(best(v));
        return systemsOf(v, thereNow().subList(begins.get(i), begins.get(i + 1))).size();
    }

    private int lay(int v) {
        if (noVoice(v)) {
            return BEYOND;
        }
        if (thereNow().isEmpty()) {
            return NONE;
        }
        Voice voice = voices.get(v);
        List<Integer> begins = begins(best(v));
        voice.laid = new ArrayList<>();
        for (int i = 0; i + 1 < begins.size(); i++) {
            voice.laid.add(thereNow().get(begins.get(i)));
        }
        voice.laidBars = new ArrayList<>();
        for (Bar bar : bars) {
            Bar copy = new Bar(bar.seconds);
            copy.sign = bar.sign;
            copy.letter = bar.letter;
            copy.cut = bar.cut;
            voice.laidBars.add(copy);
        }
        voice.laidNotes = voice.notes.clone();
        voice.laidLoud = voice.loud.clone();
        return voice.laid.size();
    }

    private int stale(int v) {
        if (noVoice(v)) {
            return BEYOND;
        }
        Voice voice = voices.get(v);
        if (voice.laid == null) {
            return NONE;
        }
        int stale = 0;
        for (int i = 0; i < voice.laid.size(); i++) {
            stale += isStale(voice, i) ? 1 : 0;
        }
        return stale;
    }

    private boolean isStale(Voice v, int page) {
        int first = v.laid.get(page);
        int next = page + 1 < v.laid.size() ? v.laid.get(page + 1) : Integer.MAX_VALUE;
        for (int b = 0; b < bars.size(); b++) {
            Bar now = bars.get(b);
            Bar then = b < v.laidBars.size() ? v.laidBars.get(b) : null;
            if (then == null || then.cut) {
                boolean inside = b > first && b < next || b < first && page == 0;
                if (inside && !now.cut) {
                    return true;
                }
            } else if (b >= first && b < next) {
                boolean same = v.notes[b] == v.laidNotes[b] && v.loud[b] == v.laidLoud[b]
                        && now.sign == then.sign && now.letter == then.letter && !now.cut;
                if (!same) {
                    return true;
                }
            }
        }
        return false;
    }

    private int tell(int v) {
        if (told.size() == 40) {
            return Due.FULL;
        }
        told.add(v);
        return told.size();
    }

    private int check(int v) {
        List<Integer> waited = new ArrayList<>(told);
        told.clear();
        if (noVoice(v)) {
            return BEYOND;
        }
        List<Integer> want = partOf(v);
        for (int i = 0; i < want.size(); i++) {
            if (i >= waited.size() || !want.get(i).equals(waited.get(i))) {
                return 1 + i;
            }
        }
        return waited.size() > want.size() ? 99 : 0;
    }

    /** What must be told for check() to answer 0. */
    List<Integer> partOf(int v) {
        List<Integer> part = new ArrayList<>();
        for (int b : thereNow()) {
            if (voices.get(v).notes[b] > 0) {
                part.add(voices.get(v).notes[b]);
            }
            for (List<Integer> rests : allRests(voices.get(v))) {
                if (rests.get(0) == b) {
                    part.add(-rests.size());
                }
            }
        }
        return part;
    }

    int voiceCount() {
        return voices.size();
    }

    private int count(int what) {
        int sum = 0;
        switch (what) {
            case 0:
                return bars.size();
            case 1:
                return voices.size();
            case 2:
                return bars.size() - thereNow().size();
            case 3:
                for (int b : thereNow()) {
                    sum += bars.get(b).seconds;
                }
                return sum;
            case 4:
                return told.size();
            case 5:
                for (Voice v : voices) {
                    sum += v.laid == null ? 0 : 1;
                }
                return sum;
            default:
                return BEYOND;
        }
    }
}
