import java.util.Arrays;

/** A day in proof: its lines, who reads them, what is corrected, and what had better be otherwise. */
public final class ProofDay {
    public static final int NONE = -1, BAD = -2, NOT = -3, FULL = -4;

    private static final int MOST_LINES = 10, MOST_READERS = 6, MOST_SHIFTS = 16;
    private static final int MOST_EVENTS = 8, MOST_SEEN = 8, MINUTES = 24, FIRST_LIMIT = 12;
    private static final int TEXTS = 3, SHEETS = 4, FORMS = 3, MOST_ITEMS = 60;
    private static final int COUGH = 0, COFFEE = 1, KINDS = 2;
    private static final int ALOUD = 0, OLD = 2;
    private static final int SORTS = 3, MOST_KEEN = 9, SIXTEEN = 16;
    private static final int NULL = 1, INDEX = 2, CAST = 3, STORE = 4, SIZE = 5;
    private static final int[] HARD = {1, 3, 5};
    private static final int LEAST_INT = 1 << 31;
    private static final long LEAST_LONG = 1L << 63;

    private final Text[] texts;
    private final Plan plan;
    private final Night tonight;
    /** What might be instead: every question of the kind "what if" is tried here, never on the plan itself. */
    private final Plan trial;
    private final Night tried;
    private final Sightings sightings;
    private final Sheet[] sheets;
    /** The two numbers of the best choice and the harm that it leaves. */
    private final int[] best;
    /** How many hushed events, then which. */
    private final int[] hushed;
    /** For each keenness and minute the lines corrected by then, as bits. */
    private final int[] marks;
    /** For each line the upper part of its chance, over sixteen to the number of events. */
    private final long[] chances;
    private int finding;

    public ProofDay() {
        texts = new Text[] {
            new Text("ldt", 1, MOST_LINES), new Text("aqo", 1, MOST_READERS), new Text("012345", 0, MOST_SHIFTS)
        };
        plan = new Plan();
        tonight = new Night();
        trial = new Plan();
        tried = new Night();
        sightings = new Sightings();
        sheets = new Sheet[] {new Sheet(), new Sheet(), new Sheet(), new Sheet()};
        best = new int[3];
        hushed = new int[3];
        marks = new int[(MOST_KEEN + 1) * MINUTES];
        chances = new long[MOST_LINES];
    }

    // ---- lines, readers, shifts, events

    public int type(int text, int b) {
        if (!below(text, TEXTS) || !below(b, 256)) {
            return BAD;
        }
        Text t = texts[text];
        if (t.length >= t.bytes.length) {
            return FULL;
        }
        t.bytes[t.length] = b;
        t.length++;
        settleTexts();
        return t.length;
    }

    public int wipe(int text) {
        if (!below(text, TEXTS)) {
            return BAD;
        }
        int had = texts[text].length;
        texts[text].length = 0;
        settleTexts();
        return had;
    }

    public int undo(int text) {
        if (!below(text, TEXTS)) {
            return BAD;
        }
        Text t = texts[text];
        if (t.length == 0) {
            return NOT;
        }
        t.length--;
        settleTexts();
        return t.length;
    }

    public int fault(int text) {
        return below(text, TEXTS) ? texts[text].faultPlace() : BAD;
    }

    public int line(int line, int what) {
        if (!below(line, plan.lines) || !below(what, 3)) {
            return BAD;
        }
        int sort = plan.lineSort[line];
        if (what == 0) {
            return sort;
        }
        return what == 1 ? plan.lineGrave[line] : HARD[sort];
    }

    public int reader(int reader, int what) {
        if (!below(reader, plan.readers) || !below(what, 2)) {
            return BAD;
        }
        return what == 0 ? plan.readerSort[reader] : plan.readerKeen[reader];
    }

    public int shift(int i, int what) {
        if (!below(i, MOST_SHIFTS) || !below(what, 2)) {
            return BAD;
        }
        if (i >= plan.shifts) {
            return NONE;
        }
        return what == 0 ? plan.shiftReader[i] : plan.shiftLine[i];
    }

    public int limit(int v) {
        if (v < 1 || v > MINUTES) {
            return BAD;
        }
        int was = plan.limit;
        plan.limit = v;
        tonight.pass(plan);
        return was;
    }

    public int event(int kind, int reader, int minute) {
        if (!mayBeEvent(kind, reader, minute)) {
            return BAD;
        }
        if (plan.events >= MOST_EVENTS) {
            return FULL;
        }
        plan.addEvent(kind, reader, minute);
        tonight.pass(plan);
        return plan.events;
    }

    public int back() {
        if (plan.events == 0) {
            return NOT;
        }
        plan.events--;
        tonight.pass(plan);
        return plan.events;
    }

    public int read(int s) {
        if (!below(s, SHEETS)) {
            return BAD;
        }
        Sheet sheet = sheets[s];
        if (sheet.lost) {
            return found(NULL);
        }
        int came = 0;
        for (int i = 0; i + 2 < sheet.length && plan.events < MOST_EVENTS; i += 3) {
            int kind = sheet.items[i];
            int reader = sheet.items[i + 1];
            int minute = sheet.items[i + 2];
            if (!mayBeEvent(kind, reader, minute)) {
                break;
            }
            plan.addEvent(kind, reader, minute);
            came++;
        }
        tonight.pass(plan);
        return came;
    }

    // ---- the night

    public int margin(int line, int what) {
        if (!below(line, plan.lines) || !below(what, 3)) {
            return BAD;
        }
        if (what == 0) {
            return tonight.by[line];
        }
        return what == 1 ? tonight.minute[line] : tonight.reads[line];
    }

    public int night(int reader, int what) {
        if (!below(reader, plan.readers)) {
            return BAD;
        }
        switch (what) {
            case 0:
                return tonight.shiftsDone[reader];
            case 1:
                return tonight.tired[reader];
            case 2:
                return tonight.last[reader];
            case 3:
                return tonight.finds[reader];
            default:
                return BAD;
        }
    }

    public int done(int i, int what) {
        if (!below(i, plan.shifts) || !below(what, 2)) {
            return BAD;
        }
        return what == 0 ? tonight.begins[i] : tonight.found[i];
    }

    public int marked(int minute) {
        return below(minute, MINUTES) ? Integer.bitCount(tonight.markedBy(minute)) : BAD;
    }

    public int harm() {
        return tonight.harmOf(plan);
    }

    public int worst() {
        int worst = NONE;
        for (int i = 0; i < plan.lines; i++) {
            if (tonight.by[i] == NONE && (worst == NONE || plan.lineGrave[i] > plan.lineGrave[worst])) {
                worst = i;
            }
        }
        return worst;
    }

    public int left(int what) {
        if (!below(what, 2)) {
            return BAD;
        }
        return what == 0 ? tonight.unread() : tonight.passed();
    }

    // ---- plans

    public int more(int what) {
        if (!below(what, 3)) {
            return BAD;
        }
        findShiftMore();
        return best[what];
    }

    public int late() {
        trial.takeFrom(plan);
        for (int limit = 1; limit <= MINUTES; limit++) {
            trial.limit = limit;
            tried.pass(trial);
            if (tried.harmOf(trial) == 0) {
                return limit;
            }
        }
        return NONE;
    }

    public int turn(int what) {
        if (!below(what, 3)) {
            return BAD;
        }
        findTurn();
        return best[what];
    }

    public int hush(int i) {
        if (i < NONE || i > 1) {
            return BAD;
        }
        findHush();
        return hushed[i + 1];
    }

    // ---- seen, chance, days

    public int seen(int minute, int line, int is) {
        if (!below(minute, MINUTES) || !below(line, MOST_LINES) || !below(is, 2)) {
            return BAD;
        }
        if (sightings.size >= MOST_SEEN) {
            return FULL;
        }
        sightings.append(minute, line, is);
        return sightings.size;
    }

    public int forget() {
        int had = sightings.size;
        sightings.size = 0;
        return had;
    }

    public int never() {
        trial.takeFrom(plan);
        int bits = 0;
        for (int i = 0; i < plan.events; i++) {
            trial.absent = 1 << i;
            tried.pass(trial);
            if (sightings.comeOut(tried)) {
                bits |= 1 << i;
            }
        }
        return bits;
    }

    public int keens(int reader) {
        return below(reader, plan.readers) ? tryKeens(reader) : BAD;
    }

    public int kind(int line) {
        if (!below(line, plan.lines)) {
            return BAD;
        }
        trial.takeFrom(plan);
        int bits = 0;
        for (int sort = 0; sort < SORTS; sort++) {
            trial.lineSort[line] = sort;
            tried.pass(trial);
            if (sightings.comeOut(tried)) {
                bits |= 1 << sort;
            }
        }
        return bits;
    }

    public int ask(int reader) {
        if (!below(reader, plan.readers)) {
            return BAD;
        }
        int possible = tryKeens(reader);
        int bestMinute = 0;
        int least = MOST_KEEN + 1;
        for (int minute = 0; minute < MINUTES; minute++) {
            int greatest = greatestAlike(possible, minute);
            if (greatest < least) {
                least = greatest;
                bestMinute = minute;
            }
        }
        return bestMinute;
    }

    public long chance(int c, int line, int what) {
        if (!below(c, SIXTEEN + 1) || !below(line, plan.lines) || !below(what, 2)) {
            return LEAST_LONG - BAD;
        }
        weighChances(c);
        return lowestTerm(line, what);
    }

    public int days(int seed, int n, int what) {
        if (!below(n, MOST_SHIFTS + 1) || !below(what, 2)) {
            return BAD;
        }
        trial.takeFrom(plan);
        trial.drawShifts(seed, n);
        tried.pass(trial);
        return what == 0 ? tried.harmOf(trial) : Integer.bitCount(tried.unread());
    }

    // ---- sheets

    public int sheet(int s, int form, int n) {
        if (!below(s, SHEETS) || !below(form, FORMS) || n > MOST_ITEMS) {
            return BAD;
        }
        if (n < 0) {
            return found(SIZE);
        }
        sheets[s].renew(form, n);
        return n;
    }

    public int lose(int s) {
        if (!below(s, SHEETS)) {
            return BAD;
        }
        if (sheets[s].lost) {
            return found(NULL);
        }
        sheets[s].lost = true;
        return sheets[s].length;
    }

    public int lay(int s, int form, int i, int v) {
        if (!below(s, SHEETS) || !below(form, FORMS)) {
            return BAD;
        }
        int wrong = sheets[s].findingAt(form, i);
        if (wrong != 0) {
            return found(wrong);
        }
        sheets[s].put(i, v);
        return 1;
    }

    public int get(int s, int form, int i) {
        if (!below(s, SHEETS) || !below(form, FORMS)) {
            return LEAST_INT;
        }
        int wrong = sheets[s].findingAt(form, i);
        if (wrong != 0) {
            finding = wrong;
            return LEAST_INT;
        }
        return sheets[s].items[i];
    }

    public int copy(int s, int i, int t, int j, int n) {
        if (!below(s, SHEETS) || !below(t, SHEETS)) {
            return BAD;
        }
        Sheet from = sheets[s];
        Sheet to = sheets[t];
        if (from.lost || to.lost) {
            return found(NULL);
        }
        if (from.form != to.form) {
            return found(STORE);
        }
        if (!from.holds(i, n) || !to.holds(j, n)) {
            return found(INDEX);
        }
        System.arraycopy(from.items, i, to.items, j, n);
        return 1;
    }

    public int write(int s) {
        if (!below(s, SHEETS)) {
            return BAD;
        }
        Sheet sheet = sheets[s];
        if (sheet.lost) {
            return found(NULL);
        }
        int many = Math.min(sheet.length, MOST_LINES);
        for (int i = 0; i < many; i++) {
            sheet.put(i, tonight.minute[i]);
        }
        return many;
    }

    public int count(int what) {
        switch (what) {
            case 0:
                return plan.lines;
            case 1:
                return plan.readers;
            case 2:
                return plan.shifts;
            case 3:
            case 4:
            case 5:
                return texts[what - 3].length;
            case 6:
                return plan.events;
            case 7:
                return sightings.size;
            case 8:
                return finding;
            default:
                return BAD;
        }
    }

    public long digest() {
        long h = 17;
        for (int what = 0; what <= 7; what++) {
            h = mix(h, count(what));
        }
        for (int text = 0; text < TEXTS; text++) {
            h = mix(h, fault(text));
        }
        h = digestShifts(h);
        h = digestLines(h);
        h = digestReaders(h);
        for (int minute = 0; minute < MINUTES; minute++) {
            h = mix(h, marked(minute));
        }
        return digestPlans(h);
    }

    private long digestShifts(long start) {
        long h = start;
        for (int i = 0; i < MOST_SHIFTS; i++) {
            h = mix(h, shift(i, 0));
            h = mix(h, shift(i, 1));
        }
        for (int i = 0; i < plan.shifts; i++) {
            h = mix(h, done(i, 0));
            h = mix(h, done(i, 1));
        }
        return h;
    }

    private long digestLines(long start) {
        long h = start;
        // One weighing serves all lines; kind() leaves it as it is.
        weighChances(5);
        for (int i = 0; i < plan.lines; i++) {
            for (int what = 0; what < 3; what++) {
                h = mix(h, line(i, what));
            }
            for (int what = 0; what < 3; what++) {
                h = mix(h, margin(i, what));
            }
            h = mix(h, kind(i));
            h = mix(h, lowestTerm(i, 0));
            h = mix(h, lowestTerm(i, 1));
        }
        return h;
    }

    private long digestReaders(long start) {
        long h = start;
        for (int i = 0; i < plan.readers; i++) {
            h = mix(h, reader(i, 0));
            h = mix(h, reader(i, 1));
            for (int what = 0; what < 4; what++) {
                h = mix(h, night(i, what));
            }
            h = mix(h, keens(i));
            h = mix(h, ask(i));
        }
        return h;
    }

    private long digestPlans(long start) {
        long h = mix(start, harm());
        h = mix(h, worst());
        h = mix(h, left(0));
        h = mix(h, left(1));
        findShiftMore();
        h = mixBest(h);
        h = mix(h, late());
        findTurn();
        h = mixBest(h);
        findHush();
        h = mix(h, hushed[0]);
        h = mix(h, hushed[1]);
        h = mix(h, never());
        h = mix(h, days(7, 12, 0));
        return mix(h, days(7, 12, 1));
    }

    private long mixBest(long start) {
        return mix(mix(mix(start, best[0]), best[1]), best[2]);
    }

    private static long mix(long h, long v) {
        return 31 * h + v;
    }

    private static boolean below(int v, int end) {
        return v >= 0 && v < end;
    }

    private static boolean mayBeEvent(int kind, int reader, int minute) {
        return below(kind, KINDS) && below(reader, MOST_READERS) && below(minute, MINUTES);
    }

    private int found(int number) {
        finding = number;
        return -10 - number;
    }

    private void settleTexts() {
        plan.takeTexts(texts[0], texts[1], texts[2]);
        tonight.pass(plan);
    }

    private void findShiftMore() {
        Arrays.fill(best, NONE);
        trial.takeFrom(plan);
        // The rows of a plan have one place more than a text has room for.
        int place = plan.shifts;
        trial.shifts = place + 1;
        for (int reader = 0; reader < plan.readers; reader++) {
            for (int line = 0; line < plan.lines; line++) {
                trial.shiftReader[place] = reader;
                trial.shiftLine[place] = line;
                keepIfBetter(reader, line);
            }
        }
    }

    private void findTurn() {
        Arrays.fill(best, NONE);
        trial.takeFrom(plan);
        for (int i = 0; i < plan.shifts; i++) {
            for (int j = i + 1; j < plan.shifts; j++) {
                trial.exchange(i, j);
                keepIfBetter(i, j);
                trial.exchange(i, j);
            }
        }
    }

    private void keepIfBetter(int first, int second) {
        tried.pass(trial);
        int harm = tried.harmOf(trial);
        if (best[2] == NONE || harm < best[2]) {
            best[0] = first;
            best[1] = second;
            best[2] = harm;
        }
    }

    private void findHush() {
        Arrays.fill(hushed, NONE);
        trial.takeFrom(plan);
        if (hushHelps(0)) {
            hushed[0] = 0;
            return;
        }
        for (int i = 0; i < plan.events; i++) {
            if (hushHelps(1 << i)) {
                hushed[0] = 1;
                hushed[1] = i;
                return;
            }
        }
        for (int i = 0; i < plan.events; i++) {
            for (int j = i + 1; j < plan.events; j++) {
                if (hushHelps(1 << i | 1 << j)) {
                    hushed[0] = 2;
                    hushed[1] = i;
                    hushed[2] = j;
                    return;
                }
            }
        }
    }

    private boolean hushHelps(int absent) {
        trial.absent = absent;
        tried.pass(trial);
        return tried.passed() == 0;
    }

    /** The keennesses by which all that was seen comes out so, as bits; leaves their marks behind. */
    private int tryKeens(int reader) {
        trial.takeFrom(plan);
        int bits = 0;
        for (int keen = 1; keen <= MOST_KEEN; keen++) {
            trial.readerKeen[reader] = keen;
            tried.pass(trial);
            if (sightings.comeOut(tried)) {
                bits |= 1 << keen;
            }
            for (int minute = 0; minute < MINUTES; minute++) {
                marks[keen * MINUTES + minute] = tried.markedBy(minute);
            }
        }
        return bits;
    }

    private int greatestAlike(int possible, int minute) {
        int greatest = 0;
        for (int one = 1; one <= MOST_KEEN; one++) {
            int alike = 0;
            for (int other = 1; other <= MOST_KEEN; other++) {
                boolean both = (possible >> one & possible >> other & 1) == 1;
                if (both && marks[one * MINUTES + minute] == marks[other * MINUTES + minute]) {
                    alike++;
                }
            }
            greatest = Math.max(greatest, alike);
        }
        return greatest;
    }

    private void weighChances(int c) {
        Arrays.fill(chances, 0);
        trial.takeFrom(plan);
        int all = 1 << plan.events;
        for (int absent = 0; absent < all; absent++) {
            long weight = weightOf(absent, c);
            if (weight == 0) {
                continue;
            }
            trial.absent = absent;
            tried.pass(trial);
            for (int i = 0; i < plan.lines; i++) {
                if (tried.by[i] != NONE) {
                    chances[i] += weight;
                }
            }
        }
    }

    private long weightOf(int absent, int c) {
        long weight = 1;
        for (int i = 0; i < plan.events; i++) {
            weight *= (absent >> i & 1) == 1 ? SIXTEEN - c : c;
        }
        return weight;
    }

    /** The lower part is a power of two, so halving is all that brings a fraction to its lowest terms. */
    private long lowestTerm(int line, int what) {
        int halvings = 4 * plan.events;
        long above = chances[line];
        long under = 1L << halvings;
        for (int i = 0; i < halvings; i++) {
            if (above % 2 == 0) {
                above /= 2;
                under /= 2;
            }
        }
        return what == 0 ? above : under;
    }

    /** A text of pairs, a head and a figure, with ; between them. */
    private static final class Text {
        final String heads;
        final int leastFigure;
        /** Just as long as the most pairs are, so that one pair more never comes in. */
        final int[] bytes;
        int length;

        Text(String heads, int leastFigure, int most) {
            this.heads = heads;
            this.leastFigure = leastFigure;
            bytes = new int[3 * most - 1];
        }

        int faultPlace() {
            for (int i = 0; i < length; i++) {
                if (!fits(i)) {
                    return i;
                }
            }
            return length == 0 || length % 3 == 2 ? NONE : length;
        }

        private boolean fits(int i) {
            int b = bytes[i];
            switch (i % 3) {
                case 0:
                    return heads.indexOf((char) b) >= 0;
                case 1:
                    return b >= '0' + leastFigure && b <= '9';
                default:
                    return b == ';';
            }
        }

        int pairs() {
            return faultPlace() == NONE ? (length + 1) / 3 : 0;
        }

        int headAt(int pair) {
            return heads.indexOf((char) bytes[3 * pair]);
        }

        int figureAt(int pair) {
            return bytes[3 * pair + 1] - '0';
        }
    }

    /** All that a night depends on. */
    private static final class Plan {
        int lines;
        final int[] lineSort = new int[MOST_LINES];
        final int[] lineGrave = new int[MOST_LINES];
        int readers;
        final int[] readerSort = new int[MOST_READERS];
        final int[] readerKeen = new int[MOST_READERS];
        int shifts;
        final int[] shiftReader = new int[MOST_SHIFTS + 1];
        final int[] shiftLine = new int[MOST_SHIFTS + 1];
        int events;
        final int[] eventKind = new int[MOST_EVENTS];
        final int[] eventReader = new int[MOST_EVENTS];
        final int[] eventMinute = new int[MOST_EVENTS];
        /** Events that are told but had never been, as bits. */
        int absent;
        int limit = FIRST_LIMIT;

        void takeTexts(Text lineText, Text readerText, Text shiftText) {
            lines = takePairs(lineText, lineSort, lineGrave);
            readers = takePairs(readerText, readerSort, readerKeen);
            shifts = takePairs(shiftText, shiftReader, shiftLine);
        }

        private static int takePairs(Text text, int[] heads, int[] figures) {
            int pairs = text.pairs();
            for (int i = 0; i < pairs; i++) {
                heads[i] = text.headAt(i);
                figures[i] = text.figureAt(i);
            }
            return pairs;
        }

        void takeFrom(Plan other) {
            lines = other.lines;
            readers = other.readers;
            shifts = other.shifts;
            events = other.events;
            absent = other.absent;
            limit = other.limit;
            takeRow(other.lineSort, lineSort);
            takeRow(other.lineGrave, lineGrave);
            takeRow(other.readerSort, readerSort);
            takeRow(other.readerKeen, readerKeen);
            takeRow(other.shiftReader, shiftReader);
            takeRow(other.shiftLine, shiftLine);
            takeRow(other.eventKind, eventKind);
            takeRow(other.eventReader, eventReader);
            takeRow(other.eventMinute, eventMinute);
        }

        private static void takeRow(int[] from, int[] to) {
            System.arraycopy(from, 0, to, 0, Math.min(from.length, to.length));
        }

        /** The caller has seen that there is room. */
        void addEvent(int kind, int reader, int minute) {
            eventKind[events] = kind;
            eventReader[events] = reader;
            eventMinute[events] = minute;
            events++;
        }

        void exchange(int i, int j) {
            int reader = shiftReader[i];
            int line = shiftLine[i];
            shiftReader[i] = shiftReader[j];
            shiftLine[i] = shiftLine[j];
            shiftReader[j] = reader;
            shiftLine[j] = line;
        }

        void drawShifts(int seed, int n) {
            shifts = 0;
            if (readers == 0 || lines == 0) {
                return;
            }
            int state = seed;
            for (int i = 0; i < n; i++) {
                state = nextSeed(state);
                shiftReader[i] = (state >>> 16) % readers;
                state = nextSeed(state);
                shiftLine[i] = (state >>> 16) % lines;
            }
            shifts = n;
        }

        private static int nextSeed(int seed) {
            return 1103515245 * seed + 12345;
        }

        /** Events of a kind and reader in the minutes from first to last. */
        int eventsIn(int kind, int reader, int first, int last) {
            int many = 0;
            for (int i = 0; i < events; i++) {
                boolean there = (absent >> i & 1) == 0;
                boolean fits = eventKind[i] == kind && eventReader[i] == reader;
                if (there && fits && eventMinute[i] >= first && eventMinute[i] <= last) {
                    many++;
                }
            }
            return many;
        }

        int pace(int reader) {
            return readerSort[reader] == ALOUD ? 2 : 1;
        }
    }

    /** What comes of a plan: of each line, reader and shift. */
    private static final class Night {
        int lines;
        final int[] by = new int[MOST_LINES];
        final int[] minute = new int[MOST_LINES];
        final int[] reads = new int[MOST_LINES];
        final int[] shiftsDone = new int[MOST_READERS];
        final int[] tired = new int[MOST_READERS];
        final int[] last = new int[MOST_READERS];
        final int[] finds = new int[MOST_READERS];
        final int[] begins = new int[MOST_SHIFTS + 1];
        final int[] found = new int[MOST_SHIFTS + 1];

        Night() {
            forgetAll(0);
        }

        void pass(Plan plan) {
            forgetAll(plan.lines);
            for (int i = 0; i < plan.shifts; i++) {
                boolean readerThere = plan.shiftReader[i] < plan.readers;
                if (readerThere && plan.shiftLine[i] < plan.lines) {
                    doShift(plan, i);
                }
            }
        }

        private void forgetAll(int linesNow) {
            lines = linesNow;
            Arrays.fill(by, NONE);
            Arrays.fill(minute, NONE);
            Arrays.fill(reads, 0);
            Arrays.fill(shiftsDone, 0);
            Arrays.fill(tired, 0);
            Arrays.fill(last, NONE);
            Arrays.fill(finds, 0);
            Arrays.fill(begins, NONE);
            Arrays.fill(found, 0);
        }

        private void doShift(Plan plan, int i) {
            int reader = plan.shiftReader[i];
            int line = plan.shiftLine[i];
            int pace = plan.pace(reader);
            int begin = shiftsDone[reader] * pace;
            int end = begin + pace - 1;
            // A reader's shifts all take the same time, so once one is too late all behind it are.
            if (end >= plan.limit) {
                return;
            }
            // The shift ahead began one pace earlier; ahead of the first this leaves minute 0 alone.
            int sinceMinute = begin == 0 ? 0 : begin - pace + 1;
            int coffees = plan.eventsIn(COFFEE, reader, sinceMinute, begin);
            tired[reader] = Math.max(0, tired[reader] - 3 * coffees);
            begins[i] = begin;
            reads[line]++;
            if (isFound(plan, reader, line) && plan.eventsIn(COUGH, reader, begin, end) == 0) {
                found[i] = 1;
                finds[reader]++;
                correct(line, reader, end);
            }
            tired[reader] += pace;
            shiftsDone[reader]++;
            last[reader] = end;
        }

        private boolean isFound(Plan plan, int reader, int line) {
            int sort = plan.readerSort[reader];
            if (sort == OLD && plan.lineGrave[line] < 3) {
                return false;
            }
            int keen = plan.readerKeen[reader] + (sort == ALOUD ? 2 : 0);
            return keen - tired[reader] >= HARD[plan.lineSort[line]];
        }

        private void correct(int line, int reader, int end) {
            boolean sooner = by[line] == NONE || end < minute[line];
            if (sooner || end == minute[line] && reader < by[line]) {
                by[line] = reader;
                minute[line] = end;
            }
        }

        boolean isMarked(int line, int byMinute) {
            return by[line] != NONE && minute[line] <= byMinute;
        }

        int markedBy(int byMinute) {
            int bits = 0;
            for (int i = 0; i < lines; i++) {
                if (isMarked(i, byMinute)) {
                    bits |= 1 << i;
                }
            }
            return bits;
        }

        int harmOf(Plan plan) {
            int harm = 0;
            for (int i = 0; i < lines; i++) {
                if (by[i] == NONE) {
                    harm += plan.lineGrave[i];
                }
            }
            return harm;
        }

        int unread() {
            int bits = 0;
            for (int i = 0; i < lines; i++) {
                if (reads[i] == 0) {
                    bits |= 1 << i;
                }
            }
            return bits;
        }

        int passed() {
            int bits = 0;
            for (int i = 0; i < lines; i++) {
                if (reads[i] > 0 && by[i] == NONE) {
                    bits |= 1 << i;
                }
            }
            return bits;
        }
    }

    /** What was seen in the margin, and when. */
    private static final class Sightings {
        int size;
        final int[] minutes = new int[MOST_SEEN];
        final int[] lines = new int[MOST_SEEN];
        final int[] corrected = new int[MOST_SEEN];

        /** The caller has seen that there is room. */
        void append(int minute, int line, int is) {
            minutes[size] = minute;
            lines[size] = line;
            corrected[size] = is;
            size++;
        }

        boolean comeOut(Night night) {
            for (int i = 0; i < size; i++) {
                boolean there = lines[i] < night.lines;
                if (!there || night.isMarked(lines[i], minutes[i]) != (corrected[i] == 1)) {
                    return false;
                }
            }
            return true;
        }
    }

    /** A row of a form; its items always lie within that form. */
    private static final class Sheet {
        boolean lost = true;
        int form;
        int length;
        final int[] items = new int[MOST_ITEMS];

        void renew(int newForm, int n) {
            lost = false;
            form = newForm;
            length = n;
            Arrays.fill(items, 0);
        }

        /** Which finding stands against item i, treated as of a form; 0: none. */
        int findingAt(int asForm, int i) {
            if (lost) {
                return NULL;
            }
            if (form != asForm) {
                return CAST;
            }
            return below(i, length) ? 0 : INDEX;
        }

        void put(int i, int v) {
            switch (form) {
                case 0:
                    items[i] = (byte) v;
                    break;
                case 1:
                    items[i] = (short) v;
                    break;
                default:
                    items[i] = v;
                    break;
            }
        }

        boolean holds(int first, int n) {
            return first >= 0 && n >= 0 && n <= length - first;
        }
    }
}
