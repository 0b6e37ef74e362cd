import java.math.BigInteger;
import java.util.ArrayList;
import java.util.HashMap;
import java.util.HashSet;
import java.util.List;
import java.util.Map;
import java.util.Random;
import java.util.Set;
import java.util.regex.Pattern;

/**
 * Drawn runs of calls, each answer compared with a model's that is written another way: lists made anew for each
 * question, the night walked minute by minute, fractions of big numbers.
 */
public final class ProofDayAgainstModel {
    private static final int NONE = -1, BAD = -2, NOT = -3, FULL = -4;
    private static final int RUNS = 400, CALLS = 440;

    private record Line(int sort, int grave) { }

    private record Reader(int sort, int keen) { }

    private record Shift(int reader, int line) { }

    private record Event(int kind, int reader, int minute) { }

    private record Seen(int minute, int line, int is) { }

    private record Setting(List<Line> lines, List<Reader> readers, List<Shift> shifts, List<Event> events, int limit) {
        Setting withLimit(int v) {
            return new Setting(lines, readers, shifts, events, v);
        }

        Setting withShifts(List<Shift> v) {
            return new Setting(lines, readers, v, events, limit);
        }

        Setting withEvents(List<Event> v) {
            return new Setting(lines, readers, shifts, v, limit);
        }

        Setting withReader(int i, Reader v) {
            List<Reader> changed = new ArrayList<>(readers);
            changed.set(i, v);
            return new Setting(lines, changed, shifts, events, limit);
        }

        Setting withLine(int i, Line v) {
            List<Line> changed = new ArrayList<>(lines);
            changed.set(i, v);
            return new Setting(changed, readers, shifts, events, limit);
        }
    }

    /** One shift as it was done. */
    private record Deed(int shift, int reader, int line, int begin, int end, boolean finds) { }

    private static final class Outcome {
        final List<Deed> deeds = new ArrayList<>();
        final int[] tired = new int[6];
        final Setting set;

        Outcome(Setting set) {
            this.set = set;
            for (int r = 0; r < set.readers.size(); r++) {
                walk(r);
            }
        }

        private void walk(int r) {
            Reader reader = set.readers.get(r);
            List<Integer> mine = new ArrayList<>();
            for (int i = 0; i < set.shifts.size(); i++) {
                if (set.shifts.get(i).reader == r && set.shifts.get(i).line < set.lines.size()) {
                    mine.add(i);
                }
            }
            int cups = 0;
            int minute = 0;
            int begun = NONE;
            boolean coughed = false;
            while (minute < set.limit && !mine.isEmpty()) {
                for (Event e : set.events) {
                    cups += e.kind == 1 && e.reader == r && e.minute == minute ? 1 : 0;
                }
                if (begun == NONE) {
                    if (reader.sort == 0 && minute + 1 >= set.limit) {
                        return;
                    }
                    begun = minute;
                    coughed = false;
                    while (cups > 0) {
                        tired[r] = tired[r] < 3 ? 0 : tired[r] - 3;
                        cups--;
                    }
                }
                for (Event e : set.events) {
                    coughed |= e.kind == 0 && e.reader == r && e.minute == minute;
                }
                if (reader.sort != 0 || minute == begun + 1) {
                    int i = mine.remove(0);
                    Line line = set.lines.get(set.shifts.get(i).line);
                    int able = reader.keen - tired[r] + (reader.sort == 0 ? 2 : 0);
                    boolean finds = !coughed && able >= 1 + 2 * line.sort && !(reader.sort == 2 && line.grave <= 2);
                    deeds.add(new Deed(i, r, set.shifts.get(i).line, begun, minute, finds));
                    tired[r] += reader.sort == 0 ? 2 : 1;
                    begun = NONE;
                }
                minute++;
            }
        }

        Deed corrector(int line) {
            Deed best = null;
            for (int minute = 0; minute < 24 && best == null; minute++) {
                for (int r = 5; r >= 0; r--) {
                    for (Deed d : deeds) {
                        if (d.line == line && d.finds && d.end == minute && d.reader == r) {
                            best = d;
                        }
                    }
                }
            }
            return best;
        }

        int reads(int line) {
            int many = 0;
            for (Deed d : deeds) {
                many += d.line == line ? 1 : 0;
            }
            return many;
        }

        boolean marked(int line, int minute) {
            Deed d = corrector(line);
            return d != null && d.end <= minute;
        }

        int harm() {
            int harm = 0;
            for (int i = 0; i < set.lines.size(); i++) {
                harm += corrector(i) == null ? set.lines.get(i).grave : 0;
            }
            return harm;
        }

        int unread() {
            int bits = 0;
            for (int i = 0; i < set.lines.size(); i++) {
                bits += reads(i) == 0 ? 1 << i : 0;
            }
            return bits;
        }

        int passed() {
            int bits = 0;
            for (int i = 0; i < set.lines.size(); i++) {
                bits += reads(i) > 0 && corrector(i) == null ? 1 << i : 0;
            }
            return bits;
        }

        Set<Integer> markedSet(int minute) {
            Set<Integer> lines = new HashSet<>();
            for (int i = 0; i < set.lines.size(); i++) {
                if (marked(i, minute)) {
                    lines.add(i);
                }
            }
            return lines;
        }
    }

    private static final class Model {
        private static final int[] ROOM = {29, 17, 47};
        private static final Pattern[] SORTS = {
            Pattern.compile("[ldt][1-9]"), Pattern.compile("[aqo][1-9]"), Pattern.compile("[0-5][0-9]")
        };
        private static final String[] SAMPLES = {"l1", "a1", "00"};
        final String[] texts = {"", "", ""};
        final List<Event> events = new ArrayList<>();
        final List<Seen> sightings = new ArrayList<>();
        final int[] forms = {NONE, NONE, NONE, NONE};
        final int[][] rows = new int[4][];
        int limit = 12;
        int finding = 0;

        private static boolean well(int text, String t) {
            if (t.isEmpty()) {
                return true;
            }
            for (String part : t.split(";", -1)) {
                if (!SORTS[text].matcher(part).matches()) {
                    return false;
                }
            }
            return true;
        }

        /** A text can go on if some ending makes it well. */
        private static boolean canGoOn(int text, String t) {
            String sample = SAMPLES[text];
            return well(text, t) || well(text, t + sample) || well(text, t + sample.charAt(1));
        }

        Setting now() {
            Setting set = new Setting(new ArrayList<>(), new ArrayList<>(), new ArrayList<>(),
                new ArrayList<>(events), limit);
            for (String part : parts(0)) {
                set.lines.add(new Line("ldt".indexOf(part.charAt(0)), part.charAt(1) - 48));
            }
            for (String part : parts(1)) {
                set.readers.add(new Reader("aqo".indexOf(part.charAt(0)), part.charAt(1) - 48));
            }
            for (String part : parts(2)) {
                set.shifts.add(new Shift(part.charAt(0) - 48, part.charAt(1) - 48));
            }
            return set;
        }

        private String[] parts(int text) {
            return texts[text].isEmpty() || !well(text, texts[text]) ? new String[0] : texts[text].split(";");
        }

        int type(int text, int b) {
            if (text < 0 || text > 2 || b < 0 || b > 255) return BAD;
            if (texts[text].length() == ROOM[text]) return FULL;
            texts[text] += (char) b;
            return texts[text].length();
        }

        int wipe(int text) {
            if (text < 0 || text > 2) return BAD;
            int had = texts[text].length();
            texts[text] = "";
            return had;
        }

        int undo(int text) {
            if (text < 0 || text > 2) return BAD;
            if (texts[text].isEmpty()) return NOT;
            texts[text] = texts[text].substring(0, texts[text].length() - 1);
            return texts[text].length();
        }

        int fault(int text) {
            if (text < 0 || text > 2) return BAD;
            String t = texts[text];
            if (well(text, t)) return NONE;
            for (int i = 1; i <= t.length(); i++) {
                if (!canGoOn(text, t.substring(0, i))) return i - 1;
            }
            return t.length();
        }

        int line(int line, int what) {
            List<Line> lines = now().lines;
            if (line < 0 || line >= lines.size() || what < 0 || what > 2) return BAD;
            Line l = lines.get(line);
            return new int[] {l.sort, l.grave, 1 + 2 * l.sort}[what];
        }

        int reader(int reader, int what) {
            List<Reader> readers = now().readers;
            if (reader < 0 || reader >= readers.size() || what < 0 || what > 1) return BAD;
            return what == 0 ? readers.get(reader).sort : readers.get(reader).keen;
        }

        int shift(int i, int what) {
            List<Shift> shifts = now().shifts;
            if (i < 0 || i > 15 || what < 0 || what > 1) return BAD;
            if (i >= shifts.size()) return NONE;
            return what == 0 ? shifts.get(i).reader : shifts.get(i).line;
        }

        int limit(int v) {
            if (v < 1 || v > 24) return BAD;
            int was = limit;
            limit = v;
            return was;
        }

        private static boolean mayBe(int kind, int reader, int minute) {
            return kind >= 0 && kind <= 1 && reader >= 0 && reader <= 5 && minute >= 0 && minute <= 23;
        }

        int event(int kind, int reader, int minute) {
            if (!mayBe(kind, reader, minute)) return BAD;
            if (events.size() == 8) return FULL;
            events.add(new Event(kind, reader, minute));
            return events.size();
        }

        int back() {
            if (events.isEmpty()) return NOT;
            events.remove(events.size() - 1);
            return events.size();
        }

        private int find(int number) {
            finding = number;
            return -10 - number;
        }

        int read(int s) {
            if (s < 0 || s > 3) return BAD;
            if (rows[s] == null) return find(1);
            int came = 0;
            for (int k = 0; k < rows[s].length / 3; k++) {
                int[] row = rows[s];
                if (events.size() == 8 || !mayBe(row[3 * k], row[3 * k + 1], row[3 * k + 2])) return came;
                events.add(new Event(row[3 * k], row[3 * k + 1], row[3 * k + 2]));
                came++;
            }
            return came;
        }

        int margin(int line, int what) {
            Outcome o = new Outcome(now());
            if (line < 0 || line >= o.set.lines.size() || what < 0 || what > 2) return BAD;
            if (what == 2) return o.reads(line);
            Deed d = o.corrector(line);
            return d == null ? NONE : what == 0 ? d.reader : d.end;
        }

        int night(int reader, int what) {
            Outcome o = new Outcome(now());
            if (reader < 0 || reader >= o.set.readers.size() || what < 0 || what > 3) return BAD;
            int many = 0;
            int last = NONE;
            int finds = 0;
            for (Deed d : o.deeds) {
                if (d.reader == reader) {
                    many++;
                    last = Math.max(last, d.end);
                    finds += d.finds ? 1 : 0;
                }
            }
            return new int[] {many, o.tired[reader], last, finds}[what];
        }

        int done(int i, int what) {
            Outcome o = new Outcome(now());
            if (i < 0 || i >= o.set.shifts.size() || what < 0 || what > 1) return BAD;
            for (Deed d : o.deeds) {
                if (d.shift == i) return what == 0 ? d.begin : d.finds ? 1 : 0;
            }
            return what == 0 ? NONE : 0;
        }

        int marked(int minute) {
            return minute < 0 || minute > 23 ? BAD : new Outcome(now()).markedSet(minute).size();
        }

        int harm() {
            return new Outcome(now()).harm();
        }

        int worst() {
            Outcome o = new Outcome(now());
            for (int grave = 9; grave >= 1; grave--) {
                for (int i = 0; i < o.set.lines.size(); i++) {
                    if (o.set.lines.get(i).grave == grave && o.corrector(i) == null) return i;
                }
            }
            return NONE;
        }

        int left(int what) {
            if (what < 0 || what > 1) return BAD;
            Outcome o = new Outcome(now());
            return what == 0 ? o.unread() : o.passed();
        }

        int more(int what) {
            if (what < 0 || what > 2) return BAD;
            Setting set = now();
            int[] best = {NONE, NONE, NONE};
            for (int r = set.readers.size() - 1; r >= 0; r--) {
                for (int l = set.lines.size() - 1; l >= 0; l--) {
                    List<Shift> longer = new ArrayList<>(set.shifts);
                    longer.add(new Shift(r, l));
                    int harm = new Outcome(set.withShifts(longer)).harm();
                    if (best[2] == NONE || harm <= best[2]) best = new int[] {r, l, harm};
                }
            }
            return best[what];
        }

        int late() {
            int late = NONE;
            for (int v = 24; v >= 1; v--) {
                if (new Outcome(now().withLimit(v)).harm() == 0) late = v;
            }
            return late;
        }

        int turn(int what) {
            if (what < 0 || what > 2) return BAD;
            Setting set = now();
            int[] best = {NONE, NONE, NONE};
            for (int i = set.shifts.size() - 2; i >= 0; i--) {
                for (int j = set.shifts.size() - 1; j > i; j--) {
                    List<Shift> turned = new ArrayList<>(set.shifts);
                    turned.set(i, set.shifts.get(j));
                    turned.set(j, set.shifts.get(i));
                    int harm = new Outcome(set.withShifts(turned)).harm();
                    if (best[2] == NONE || harm <= best[2]) best = new int[] {i, j, harm};
                }
            }
            return best[what];
        }

        private static List<Event> chosen(List<Event> all, int bits) {
            List<Event> there = new ArrayList<>();
            for (int i = 0; i < all.size(); i++) {
                if ((bits >> i & 1) == 1) there.add(all.get(i));
            }
            return there;
        }

        int hush(int i) {
            if (i < NONE || i > 1) return BAD;
            Setting set = now();
            int n = set.events.size();
            List<Integer> best = null;
            for (int gone = 0; gone < 1 << n; gone++) {
                if (Integer.bitCount(gone) > 2) continue;
                Setting rest = set.withEvents(chosen(set.events, ~gone));
                if (new Outcome(rest).passed() != 0) continue;
                List<Integer> row = new ArrayList<>();
                for (int k = 0; k < n; k++) {
                    if ((gone >> k & 1) == 1) row.add(k);
                }
                if (best == null || lessRow(row, best)) best = row;
            }
            if (best == null) return NONE;
            return i == NONE ? best.size() : i < best.size() ? best.get(i) : NONE;
        }

        private static boolean lessRow(List<Integer> a, List<Integer> b) {
            if (a.size() != b.size()) return a.size() < b.size();
            for (int k = 0; k < a.size(); k++) {
                if (!a.get(k).equals(b.get(k))) return a.get(k) < b.get(k);
            }
            return false;
        }

        int seen(int minute, int line, int is) {
            if (minute < 0 || minute > 23 || line < 0 || line > 9 || is < 0 || is > 1) return BAD;
            if (sightings.size() == 8) return FULL;
            sightings.add(new Seen(minute, line, is));
            return sightings.size();
        }

        int forget() {
            int had = sightings.size();
            sightings.clear();
            return had;
        }

        private boolean comesOut(Setting set) {
            Outcome o = new Outcome(set);
            for (Seen s : sightings) {
                if (s.line >= set.lines.size()) return false;
                if (o.marked(s.line, s.minute) != (s.is == 1)) return false;
            }
            return true;
        }

        int never() {
            Setting set = now();
            int bits = 0;
            for (int i = 0; i < set.events.size(); i++) {
                List<Event> rest = new ArrayList<>(set.events);
                rest.remove(i);
                bits += comesOut(set.withEvents(rest)) ? 1 << i : 0;
            }
            return bits;
        }

        int keens(int reader) {
            Setting set = now();
            if (reader < 0 || reader >= set.readers.size()) return BAD;
            int bits = 0;
            for (int k = 1; k <= 9; k++) {
                Reader other = new Reader(set.readers.get(reader).sort, k);
                bits += comesOut(set.withReader(reader, other)) ? 1 << k : 0;
            }
            return bits;
        }

        int kind(int line) {
            Setting set = now();
            if (line < 0 || line >= set.lines.size()) return BAD;
            int bits = 0;
            for (int k = 0; k < 3; k++) {
                Line other = new Line(k, set.lines.get(line).grave);
                bits += comesOut(set.withLine(line, other)) ? 1 << k : 0;
            }
            return bits;
        }

        int ask(int reader) {
            int keens = keens(reader);
            if (keens == BAD) return BAD;
            Setting set = now();
            int best = NONE;
            int least = 99;
            for (int minute = 0; minute < 24; minute++) {
                Map<Set<Integer>, Integer> classes = new HashMap<>();
                int greatest = 0;
                for (int k = 1; k <= 9; k++) {
                    if ((keens >> k & 1) == 0) continue;
                    Reader other = new Reader(set.readers.get(reader).sort, k);
                    Set<Integer> marked = new Outcome(set.withReader(reader, other)).markedSet(minute);
                    greatest = Math.max(greatest, classes.merge(marked, 1, Integer::sum));
                }
                if (greatest < least) {
                    least = greatest;
                    best = minute;
                }
            }
            return best;
        }

        long chance(int c, int line, int what) {
            Setting set = now();
            boolean bad = c < 0 || c > 16 || line < 0 || line >= set.lines.size() || what < 0 || what > 1;
            if (bad) return Long.MIN_VALUE + 2;
            int n = set.events.size();
            BigInteger above = BigInteger.ZERO;
            for (int there = 0; there < 1 << n; there++) {
                int many = Integer.bitCount(there);
                if (new Outcome(set.withEvents(chosen(set.events, there))).corrector(line) != null) {
                    BigInteger come = BigInteger.valueOf(c).pow(many);
                    above = above.add(come.multiply(BigInteger.valueOf(16 - c).pow(n - many)));
                }
            }
            BigInteger below = BigInteger.valueOf(16).pow(n);
            BigInteger common = above.gcd(below);
            return (what == 0 ? above : below).divide(common).longValueExact();
        }

        int days(int seed, int n, int what) {
            if (n < 0 || n > 16 || what < 0 || what > 1) return BAD;
            Setting set = now();
            List<Shift> drawn = new ArrayList<>();
            long state = seed & 0xffffffffL;
            for (int i = 0; i < n && !set.readers.isEmpty() && !set.lines.isEmpty(); i++) {
                state = (1103515245L * state + 12345L) & 0xffffffffL;
                int reader = (int) ((state / 65536) % set.readers.size());
                state = (1103515245L * state + 12345L) & 0xffffffffL;
                drawn.add(new Shift(reader, (int) ((state / 65536) % set.lines.size())));
            }
            Outcome o = new Outcome(set.withShifts(drawn));
            return what == 0 ? o.harm() : Integer.bitCount(o.unread());
        }

        int sheet(int s, int form, int n) {
            if (s < 0 || s > 3 || form < 0 || form > 2 || n > 60) return BAD;
            if (n < 0) return find(5);
            forms[s] = form;
            rows[s] = new int[n];
            return n;
        }

        int lose(int s) {
            if (s < 0 || s > 3) return BAD;
            if (rows[s] == null) return find(1);
            int had = rows[s].length;
            rows[s] = null;
            return had;
        }

        private int wrongAt(int s, int form, int i) {
            if (s < 0 || s > 3 || form < 0 || form > 2) return BAD;
            if (rows[s] == null) return find(1);
            if (forms[s] != form) return find(3);
            return i < 0 || i >= rows[s].length ? find(2) : 0;
        }

        private void lower(int s, int i, int v) {
            int bits = new int[] {24, 16, 0}[forms[s]];
            rows[s][i] = v << bits >> bits;
        }

        int lay(int s, int form, int i, int v) {
            int wrong = wrongAt(s, form, i);
            if (wrong != 0) return wrong;
            lower(s, i, v);
            return 1;
        }

        int get(int s, int form, int i) {
            return wrongAt(s, form, i) != 0 ? Integer.MIN_VALUE : rows[s][i];
        }

        int copy(int s, int i, int t, int j, int n) {
            if (s < 0 || s > 3 || t < 0 || t > 3) return BAD;
            if (rows[s] == null || rows[t] == null) return find(1);
            if (forms[s] != forms[t]) return find(4);
            boolean under = i < 0 || j < 0 || n < 0;
            if (under || (long) i + n > rows[s].length || (long) j + n > rows[t].length) return find(2);
            int[] was = rows[s].clone();
            for (int k = 0; k < n; k++) {
                rows[t][j + k] = was[i + k];
            }
            return 1;
        }

        int write(int s) {
            if (s < 0 || s > 3) return BAD;
            if (rows[s] == null) return find(1);
            int many = 0;
            for (int i = 0; i < 10 && i < rows[s].length; i++) {
                int minute = margin(i, 1);
                lower(s, i, minute == BAD ? NONE : minute);
                many++;
            }
            return many;
        }

        int count(int what) {
            Setting set = now();
            int[] all = {
                set.lines.size(), set.readers.size(), set.shifts.size(), texts[0].length(), texts[1].length(),
                texts[2].length(), events.size(), sightings.size(), finding
            };
            return what < 0 || what > 8 ? BAD : all[what];
        }

        long digest() {
            List<Long> all = new ArrayList<>();
            for (int i = 0; i < 8; i++) all.add((long) count(i));
            for (int i = 0; i < 3; i++) all.add((long) fault(i));
            for (int i = 0; i < 32; i++) all.add((long) shift(i / 2, i % 2));
            for (int i = 0; i < 2 * count(2); i++) all.add((long) done(i / 2, i % 2));
            for (int i = 0; i < count(0); i++) {
                for (int w = 0; w < 3; w++) all.add((long) line(i, w));
                for (int w = 0; w < 3; w++) all.add((long) margin(i, w));
                all.add((long) kind(i));
                all.add(chance(5, i, 0));
                all.add(chance(5, i, 1));
            }
            for (int i = 0; i < count(1); i++) {
                for (int w = 0; w < 2; w++) all.add((long) reader(i, w));
                for (int w = 0; w < 4; w++) all.add((long) night(i, w));
                all.add((long) keens(i));
                all.add((long) ask(i));
            }
            for (int i = 0; i < 24; i++) all.add((long) marked(i));
            all.add((long) harm());
            all.add((long) worst());
            for (int w = 0; w < 2; w++) all.add((long) left(w));
            for (int w = 0; w < 3; w++) all.add((long) more(w));
            all.add((long) late());
            for (int w = 0; w < 3; w++) all.add((long) turn(w));
            all.add((long) hush(NONE));
            all.add((long) hush(0));
            all.add((long) never());
            for (int w = 0; w < 2; w++) all.add((long) days(7, 12, w));
            long h = 17;
            for (long each : all) h = 31 * h + each;
            return h;
        }
    }

    private static int wrong = 0;
    private static long asked = 0;
    private static final StringBuilder told = new StringBuilder();

    private final Random draw;
    private final ProofDay x = new ProofDay();
    private final Model m = new Model();

    private ProofDayAgainstModel(long seed) {
        draw = new Random(seed);
    }

    private void same(String call, long got, long want) {
        asked++;
        told.append(call).append(" -> ").append(want).append('\n');
        if (got != want) {
            wrong++;
            if (wrong <= 5) {
                System.out.println(told + "answered " + got + ", due is " + want + '\n');
            }
        }
    }

    /** Mostly within 0 to most, at times just outside, seldom far outside. */
    private int near(int most) {
        int kind = draw.nextInt(40);
        if (kind == 0) return -1 - draw.nextInt(2);
        if (kind == 1) return most + 1 + draw.nextInt(2);
        if (kind == 2) return Integer.MAX_VALUE - 2 + draw.nextInt(6);
        return draw.nextInt(most + 1);
    }

    private void type(int text, int b) {
        same("type(" + text + ", " + b + ")", x.type(text, b), m.type(text, b));
    }

    private void typePairs(int text, String heads, String figures, int many) {
        for (int i = 0; i < many; i++) {
            if (i > 0) type(text, ';');
            type(text, heads.charAt(draw.nextInt(heads.length())));
            type(text, figures.charAt(draw.nextInt(figures.length())));
        }
    }

    private void typeText(int text) {
        same("wipe(" + text + ")", x.wipe(text), m.wipe(text));
        int most = new int[] {10, 6, 16}[text];
        int many = draw.nextInt(3) == 0 ? most : draw.nextInt(most + 1);
        boolean narrow = draw.nextBoolean();
        if (text == 0) typePairs(0, "ldt", narrow ? "1234" : "123456789", many);
        if (text == 1) typePairs(1, "aqo", narrow ? "456789" : "123456789", many);
        if (text == 2) typePairs(2, narrow ? "012" : "012345", narrow ? "01234" : "0123456789", many);
        if (draw.nextInt(12) == 0) type(text, "lda1;09".charAt(draw.nextInt(7)));
    }

    private void someType() {
        int text = near(2);
        int kind = draw.nextInt(5);
        if (kind < 2) same("undo(" + text + ")", x.undo(text), m.undo(text));
        else if (kind == 2) type(text, near(255));
        else type(text, ";ldtaqo0123456789".charAt(draw.nextInt(17)));
        same("fault(" + text + ")", x.fault(text), m.fault(text));
    }

    private void someChange() {
        int a = near(1);
        int b = near(draw.nextBoolean() ? 5 : 1);
        int c = near(draw.nextBoolean() ? 23 : 6);
        int line = near(draw.nextBoolean() ? 9 : 3);
        int limit = near(24);
        switch (draw.nextInt(9)) {
            case 0 -> same("back()", x.back(), m.back());
            case 1 -> same("limit(" + limit + ")", x.limit(limit), m.limit(limit));
            case 2, 3 -> same("seen(" + c + ", " + line + ", " + a + ")", x.seen(c, line, a), m.seen(c, line, a));
            case 4 -> same("forget()", x.forget(), m.forget());
            default -> same("event(" + a + ", " + b + ", " + c + ")", x.event(a, b, c), m.event(a, b, c));
        }
    }

    private void someNight() {
        int what = near(3);
        int line = near(9);
        int reader = near(5);
        int i = near(15);
        int minute = near(23);
        switch (draw.nextInt(11)) {
            case 0 -> same("margin(" + line + ", " + what + ")", x.margin(line, what), m.margin(line, what));
            case 1 -> same("night(" + reader + ", " + what + ")", x.night(reader, what), m.night(reader, what));
            case 2 -> same("done(" + i + ", " + what + ")", x.done(i, what), m.done(i, what));
            case 3 -> same("marked(" + minute + ")", x.marked(minute), m.marked(minute));
            case 4 -> same("harm()", x.harm(), m.harm());
            case 5 -> same("worst()", x.worst(), m.worst());
            case 6 -> same("left(" + what + ")", x.left(what), m.left(what));
            case 7 -> same("line(" + line + ", " + what + ")", x.line(line, what), m.line(line, what));
            case 8 -> same("reader(" + reader + ", " + what + ")", x.reader(reader, what), m.reader(reader, what));
            case 9 -> same("shift(" + i + ", " + what + ")", x.shift(i, what), m.shift(i, what));
            default -> same("count(" + line + ")", x.count(line), m.count(line));
        }
    }

    private void somePlan() {
        int what = near(2);
        int line = near(9);
        int reader = near(5);
        int c = near(16);
        int seed = draw.nextInt();
        int hushed = near(3) - 1;
        switch (draw.nextInt(10)) {
            case 0 -> same("more(" + what + ")", x.more(what), m.more(what));
            case 1 -> same("late()", x.late(), m.late());
            case 2 -> same("turn(" + what + ")", x.turn(what), m.turn(what));
            case 3 -> same("hush(" + hushed + ")", x.hush(hushed), m.hush(hushed));
            case 4 -> same("never()", x.never(), m.never());
            case 5 -> same("keens(" + reader + ")", x.keens(reader), m.keens(reader));
            case 6 -> same("kind(" + line + ")", x.kind(line), m.kind(line));
            case 7 -> same("ask(" + reader + ")", x.ask(reader), m.ask(reader));
            case 8 -> same("chance(" + c + ", " + line + ", " + what + ")",
                x.chance(c, line, what), m.chance(c, line, what));
            default -> same("days(" + seed + ", " + c + ", " + what + ")",
                x.days(seed, c, what), m.days(seed, c, what));
        }
    }

    private void someSheet() {
        int s = near(3);
        int t = near(3);
        int form = near(2);
        if (s >= 0 && s < 4 && m.forms[s] != NONE && draw.nextInt(6) != 0) form = m.forms[s];
        int i = near(draw.nextBoolean() ? 60 : 9);
        int j = near(draw.nextBoolean() ? 60 : 9);
        int n = near(draw.nextBoolean() ? 60 : 9);
        int v = draw.nextBoolean() ? near(5) : draw.nextInt();
        switch (draw.nextInt(12)) {
            case 0, 1 -> same("sheet(" + s + ", " + form + ", " + n + ")", x.sheet(s, form, n), m.sheet(s, form, n));
            case 2 -> same("lose(" + s + ")", x.lose(s), m.lose(s));
            case 3, 4, 5 -> same("lay(" + s + ", " + form + ", " + i + ", " + v + ")",
                x.lay(s, form, i, v), m.lay(s, form, i, v));
            case 6, 7 -> same("get(" + s + ", " + form + ", " + i + ")", x.get(s, form, i), m.get(s, form, i));
            case 8, 9 -> same("copy(" + s + ", " + i + ", " + t + ", " + j + ", " + n + ")",
                x.copy(s, i, t, j, n), m.copy(s, i, t, j, n));
            case 10 -> same("write(" + s + ")", x.write(s), m.write(s));
            default -> same("read(" + s + ")", x.read(s), m.read(s));
        }
        same("count(8)", x.count(8), m.count(8));
        same("count(6)", x.count(6), m.count(6));
    }

    private void run() {
        long start = asked;
        for (int text = 0; text < 3; text++) typeText(text);
        while (asked - start < CALLS) {
            int kind = draw.nextInt(100);
            if (kind < 3) typeText(draw.nextInt(3));
            else if (kind < 8) someType();
            else if (kind < 30) someChange();
            else if (kind < 55) someNight();
            else if (kind < 78) somePlan();
            else if (kind < 99) someSheet();
            else same("digest()", x.digest(), m.digest());
        }
        same("digest()", x.digest(), m.digest());
    }

    public static void main(String[] args) {
        int runs = args.length > 0 ? Integer.parseInt(args[0]) : RUNS;
        for (int i = 0; i < runs; i++) {
            told.setLength(0);
            new ProofDayAgainstModel(7919L * i + 1).run();
        }
        System.out.println(wrong == 0 ? asked + " answers are as the model's" : wrong + " are not as the model's");
        if (wrong != 0) {
            System.exit(1);
        }
    }
}
