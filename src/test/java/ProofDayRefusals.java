import java.util.ArrayList;
import java.util.Arrays;
import java.util.List;
import java.util.function.Supplier;

/**
 * Every refused call, and every question, of one of two like objects: behind it all that can be asked of both is the
 * same, but for count() 8, which tells the finding.
 */
public final class ProofDayRefusals {
    private static final int NONE = -1, BAD = -2, NOT = -3, FULL = -4;
    private static final int NULL = -11, INDEX = -12, CAST = -13, STORE = -14, SIZE = -15;
    private static final int LEAST = Integer.MIN_VALUE, GREATEST = Integer.MAX_VALUE;
    private static final long LONG_BAD = Long.MIN_VALUE + 2;
    /** The finding that stands ahead of each call: that of SIZE, or of STORE where SIZE is due. */
    private static final int EARLIER = 5, EARLIER_STILL = 4;
    /** Items of sheets 0 to 2, of FORMS 0 to 2; sheet 3 is LOST. */
    private static final int[] LENGTHS = {3, 4, 60};

    private interface Call {
        long on(ProofDay x);
    }

    /** A way to make like objects, and what can be asked of one with which nothing was done. */
    private static final class Day {
        final String name;
        final Supplier<ProofDay> maker;
        final List<Long> untouched;

        Day(String name, Supplier<ProofDay> maker) {
            this.name = name;
            this.maker = maker;
            untouched = snapshot(maker.get());
        }
    }

    private static int wrong = 0;
    private static int asked = 0;

    private static void due(String what, long got, long want) {
        asked++;
        if (got != want) {
            wrong++;
            System.out.println(what + " answered " + got + ", due is " + want);
        }
    }

    public static void main(String[] args) {
        Day some = new Day("a day", ProofDayRefusals::someDay);
        Day full = new Day("a full day", ProofDayRefusals::fullDay);
        Day empty = new Day("an empty day", ProofDayRefusals::emptyDay);
        for (Day day : List.of(some, full, empty)) {
            refusedWhatever(day);
            refusedSheets(day);
            refusedLost(day);
            refusedItems(day);
            refusedCopies(day);
            questions(day);
            questionsInTurn(day);
        }
        refusedOnSomeDay(some);
        refusedWhereFull(full);
        refusedWhereEmpty(empty);
        refusedWhereOneIsEmpty();
        refusedWithFaults();
        System.out.println(wrong == 0 ? asked + " answers are as due" : wrong + " answers are not as due");
        if (wrong != 0) {
            System.exit(1);
        }
    }

    // ---- days

    private static void typed(ProofDay x, int text, String signs) {
        for (int i = 0; i < signs.length(); i++) {
            x.type(text, signs.charAt(i));
        }
    }

    private static ProofDay day(String lines, String readers, String shifts) {
        ProofDay x = new ProofDay();
        typed(x, 0, lines);
        typed(x, 1, readers);
        typed(x, 2, shifts);
        for (int s = 0; s < LENGTHS.length; s++) {
            x.sheet(s, s, LENGTHS[s]);
            x.lay(s, s, 0, 20 + s);
            x.lay(s, s, LENGTHS[s] - 1, -20 - s);
        }
        x.sheet(0, 0, -1);
        return x;
    }

    private static ProofDay emptyDay() {
        return day("", "", "");
    }

    /** Three lines, two readers, four shifts, three events, two sightings. */
    private static ProofDay someDay() {
        ProofDay x = day("l2;t9;d5", "a5;q4", "01;10;12;00");
        x.limit(5);
        x.event(0, 0, 1);
        x.event(0, 1, 0);
        x.event(1, 1, 1);
        x.seen(3, 2, 1);
        x.seen(0, 0, 0);
        return x;
    }

    private static ProofDay fullDay() {
        ProofDay x = day("l1;d2;t3;l4;d5;t6;l7;d8;t9;l9", "a9;q8;o7;a6;q5;o4",
            "00;11;22;33;44;55;06;17;28;39;40;51;02;13;24;35");
        for (int i = 0; i < 8; i++) {
            x.event(i % 2, i % 6, i % 3);
        }
        // As it is, so that any other sighting in place of one of these would show.
        for (int line = 2; line <= 9; line++) {
            x.seen(23, line, x.margin(line, 0) == NONE ? 0 : 1);
        }
        return x;
    }

    // ---- all that can be asked

    /** The object is taken apart by it. */
    private static List<Long> snapshot(ProofDay x) {
        List<Long> all = new ArrayList<>();
        addAnswers(x, all);
        // LIMIT is asked for by setting it; a later one shows events that an earlier one hides.
        all.add((long) x.limit(24));
        all.add(x.digest());
        addSheets(x, all);
        // The events, the sightings and the bytes behind them, one by one.
        all.add((long) x.forget());
        all.add(x.digest());
        for (int i = 0; i < 9; i++) {
            all.add((long) x.back());
            all.add((long) x.harm());
            all.add(x.digest());
        }
        addTexts(x, all);
        return all;
    }

    private static void addAnswers(ProofDay x, List<Long> all) {
        for (int what = 0; what <= 7; what++) {
            all.add((long) x.count(what));
        }
        all.add(x.digest());
    }

    private static void addSheets(ProofDay x, List<Long> all) {
        for (int s = 0; s < LENGTHS.length; s++) {
            for (int i = 0; i < LENGTHS[s]; i++) {
                all.add((long) x.get(s, s, i));
            }
        }
        for (int s = 0; s < 4; s++) {
            all.add((long) x.lose(s));
        }
    }

    private static void addTexts(ProofDay x, List<Long> all) {
        for (int text = 0; text < 3; text++) {
            int left = x.undo(text);
            while (left >= 0) {
                all.add((long) left);
                if (left % 3 == 2) {
                    all.add((long) pair(x, text, left / 3, 0));
                    all.add((long) pair(x, text, left / 3, 1));
                }
                left = x.undo(text);
            }
        }
    }

    private static int pair(ProofDay x, int text, int i, int what) {
        if (text == 0) {
            return x.line(i, what);
        }
        return text == 1 ? x.reader(i, what) : x.shift(i, what);
    }

    // ---- how a call is tested

    /** A refused call: its answer is as due, and it changes nothing; of findings count() 8 tells the number. */
    private static void refused(Day day, String name, long want, Call call) {
        ProofDay x = day.maker.get();
        if (want == SIZE) {
            x.copy(0, 0, 1, 0, 0);
            due(day.name + ": count(8) ahead of " + name, x.count(8), EARLIER_STILL);
        }
        due(day.name + ": " + name, call.on(x), want);
        due(day.name + ": again " + name, call.on(x), want);
        boolean found = want <= NULL && want >= SIZE;
        changedNothing(day, name, x, found ? (int) (-10 - want) : EARLIER);
    }

    /** get() tells by count() 8 alone what it found. */
    private static void refusedGet(Day day, int finding, int s, int form, int i) {
        ProofDay x = day.maker.get();
        String name = "get(" + s + ", " + form + ", " + i + ")";
        due(day.name + ": " + name, x.get(s, form, i), LEAST);
        changedNothing(day, name, x, finding);
    }

    private static void asks(Day day, String name, Call call) {
        ProofDay x = day.maker.get();
        long once = call.on(x);
        due(day.name + ": again " + name, call.on(x), once);
        changedNothing(day, name, x, EARLIER);
    }

    private static void changedNothing(Day day, String name, ProofDay x, int finding) {
        due(day.name + ": count(8) behind " + name, x.count(8), finding);
        due(day.name + ": " + name + " changes nothing (1: so)", snapshot(x).equals(day.untouched) ? 1 : 0, 1);
    }

    // ---- refused calls

    private static int[] outside(int least, int greatest) {
        return new int[] {least - 1, greatest + 1, LEAST, GREATEST};
    }

    /** Numbers that no day has. */
    private static void refusedWhatever(Day day) {
        for (int v : outside(0, 2)) {
            refused(day, "type(" + v + ", 'l')", BAD, x -> x.type(v, 'l'));
            refused(day, "wipe(" + v + ")", BAD, x -> x.wipe(v));
            refused(day, "undo(" + v + ")", BAD, x -> x.undo(v));
            refused(day, "fault(" + v + ")", BAD, x -> x.fault(v));
            refused(day, "line(0, " + v + ")", BAD, x -> x.line(0, v));
            refused(day, "margin(0, " + v + ")", BAD, x -> x.margin(0, v));
            refused(day, "more(" + v + ")", BAD, x -> x.more(v));
            refused(day, "turn(" + v + ")", BAD, x -> x.turn(v));
        }
        for (int v : outside(0, 255)) {
            for (int text = 0; text < 3; text++) {
                int t = text;
                refused(day, "type(" + t + ", " + v + ")", BAD, x -> x.type(t, v));
            }
        }
        for (int v : outside(0, 1)) {
            refused(day, "reader(0, " + v + ")", BAD, x -> x.reader(0, v));
            refused(day, "shift(0, " + v + ")", BAD, x -> x.shift(0, v));
            refused(day, "done(0, " + v + ")", BAD, x -> x.done(0, v));
            refused(day, "left(" + v + ")", BAD, x -> x.left(v));
            refused(day, "event(" + v + ", 0, 0)", BAD, x -> x.event(v, 0, 0));
            refused(day, "seen(0, 0, " + v + ")", BAD, x -> x.seen(0, 0, v));
            refused(day, "chance(5, 0, " + v + ")", LONG_BAD, x -> x.chance(5, 0, v));
            refused(day, "days(7, 12, " + v + ")", BAD, x -> x.days(7, 12, v));
        }
        for (int v : outside(0, 9)) {
            refused(day, "line(" + v + ", 0)", BAD, x -> x.line(v, 0));
            refused(day, "margin(" + v + ", 0)", BAD, x -> x.margin(v, 0));
            refused(day, "kind(" + v + ")", BAD, x -> x.kind(v));
            refused(day, "chance(5, " + v + ", 0)", LONG_BAD, x -> x.chance(5, v, 0));
            refused(day, "seen(0, " + v + ", 0)", BAD, x -> x.seen(0, v, 0));
        }
        for (int v : outside(0, 5)) {
            refused(day, "reader(" + v + ", 0)", BAD, x -> x.reader(v, 0));
            refused(day, "night(" + v + ", 0)", BAD, x -> x.night(v, 0));
            refused(day, "keens(" + v + ")", BAD, x -> x.keens(v));
            refused(day, "ask(" + v + ")", BAD, x -> x.ask(v));
            refused(day, "event(0, " + v + ", 0)", BAD, x -> x.event(0, v, 0));
        }
        for (int v : outside(0, 15)) {
            refused(day, "shift(" + v + ", 0)", BAD, x -> x.shift(v, 0));
            refused(day, "done(" + v + ", 0)", BAD, x -> x.done(v, 0));
        }
        for (int v : outside(0, 16)) {
            refused(day, "chance(" + v + ", 0, 0)", LONG_BAD, x -> x.chance(v, 0, 0));
            refused(day, "days(7, " + v + ", 0)", BAD, x -> x.days(7, v, 0));
        }
        for (int v : outside(0, 23)) {
            refused(day, "event(0, 0, " + v + ")", BAD, x -> x.event(0, 0, v));
            refused(day, "seen(" + v + ", 0, 0)", BAD, x -> x.seen(v, 0, 0));
            refused(day, "marked(" + v + ")", BAD, x -> x.marked(v));
        }
        for (int v : outside(0, 3)) {
            refused(day, "night(0, " + v + ")", BAD, x -> x.night(0, v));
        }
        for (int v : outside(1, 24)) {
            refused(day, "limit(" + v + ")", BAD, x -> x.limit(v));
        }
        for (int v : outside(NONE, 1)) {
            refused(day, "hush(" + v + ")", BAD, x -> x.hush(v));
        }
        for (int v : outside(0, 8)) {
            refused(day, "count(" + v + ")", BAD, x -> x.count(v));
        }
    }

    private static void refusedSheets(Day day) {
        for (int v : outside(0, 3)) {
            refused(day, "read(" + v + ")", BAD, x -> x.read(v));
            refused(day, "sheet(" + v + ", 0, 1)", BAD, x -> x.sheet(v, 0, 1));
            refused(day, "sheet(" + v + ", 0, -1)", BAD, x -> x.sheet(v, 0, -1));
            refused(day, "lose(" + v + ")", BAD, x -> x.lose(v));
            refused(day, "lay(" + v + ", 0, 0, 9)", BAD, x -> x.lay(v, 0, 0, 9));
            refused(day, "copy(" + v + ", 0, 0, 0, 1)", BAD, x -> x.copy(v, 0, 0, 0, 1));
            refused(day, "copy(0, 0, " + v + ", 0, 1)", BAD, x -> x.copy(0, 0, v, 0, 1));
            refused(day, "copy(3, 0, " + v + ", 0, 1)", BAD, x -> x.copy(3, 0, v, 0, 1));
            refused(day, "write(" + v + ")", BAD, x -> x.write(v));
            refusedGet(day, EARLIER, v, 0, 0);
        }
        for (int v : outside(0, 2)) {
            for (int sheet = 0; sheet < 4; sheet++) {
                int s = sheet;
                refused(day, "sheet(" + s + ", " + v + ", 1)", BAD, x -> x.sheet(s, v, 1));
                refused(day, "sheet(" + s + ", " + v + ", -1)", BAD, x -> x.sheet(s, v, -1));
                refused(day, "lay(" + s + ", " + v + ", 0, 9)", BAD, x -> x.lay(s, v, 0, 9));
                refusedGet(day, EARLIER, s, v, 0);
            }
        }
        for (int sheet = 0; sheet < 4; sheet++) {
            int s = sheet;
            for (int n : new int[] {61, 256, 65536, GREATEST}) {
                refused(day, "sheet(" + s + ", 1, " + n + ")", BAD, x -> x.sheet(s, 1, n));
            }
            for (int n : new int[] {-1, -60, LEAST}) {
                refused(day, "sheet(" + s + ", 1, " + n + ")", SIZE, x -> x.sheet(s, 1, n));
            }
        }
    }

    private static void refusedLost(Day day) {
        refused(day, "read(3)", NULL, x -> x.read(3));
        refused(day, "lose(3)", NULL, x -> x.lose(3));
        refused(day, "write(3)", NULL, x -> x.write(3));
        for (int form = 0; form < 3; form++) {
            int f = form;
            for (int i : new int[] {0, -1, 60}) {
                refused(day, "lay(3, " + f + ", " + i + ", 9)", NULL, x -> x.lay(3, f, i, 9));
                refusedGet(day, 1, 3, f, i);
            }
        }
        for (int sheet = 0; sheet < 4; sheet++) {
            int s = sheet;
            for (int n : new int[] {-1, 0, 1, 61}) {
                refused(day, "copy(3, 0, " + s + ", 0, " + n + ")", NULL, x -> x.copy(3, 0, s, 0, n));
                refused(day, "copy(" + s + ", 0, 3, 0, " + n + ")", NULL, x -> x.copy(s, 0, 3, 0, n));
            }
        }
    }

    private static void refusedItems(Day day) {
        for (int sheet = 0; sheet < 3; sheet++) {
            int s = sheet;
            for (int i : outside(0, LENGTHS[s] - 1)) {
                refused(day, "lay(" + s + ", " + s + ", " + i + ", 9)", INDEX, x -> x.lay(s, s, i, 9));
                refusedGet(day, 2, s, s, i);
            }
            for (int other : new int[] {(s + 1) % 3, (s + 2) % 3}) {
                for (int i : new int[] {0, -1, LENGTHS[s]}) {
                    refused(day, "lay(" + s + ", " + other + ", " + i + ", 9)", CAST,
                        x -> x.lay(s, other, i, 9));
                    refusedGet(day, 3, s, other, i);
                }
            }
        }
    }

    private static void refusedCopies(Day day) {
        for (int from = 0; from < 3; from++) {
            int s = from;
            for (int t : new int[] {(s + 1) % 3, (s + 2) % 3}) {
                for (int n : new int[] {-1, 0, 1, 61}) {
                    refused(day, "copy(" + s + ", 0, " + t + ", 0, " + n + ")", STORE,
                        x -> x.copy(s, 0, t, 0, n));
                }
            }
            int all = LENGTHS[s];
            int[][] wrongOnes = {
                {-1, 0, 1}, {0, -1, 1}, {0, 0, -1}, {-1, 0, 0}, {0, -1, 0}, {0, 0, all + 1}, {1, 0, all}, {0, 1, all},
                {all, 0, 1}, {0, all, 1}, {all + 1, 0, 0}, {0, all + 1, 0}, {LEAST, 0, 1}, {0, LEAST, 1},
                {0, 0, LEAST}, {GREATEST, 0, 1}, {0, GREATEST, 1}, {1, 0, GREATEST}, {0, 1, GREATEST},
                {GREATEST, 0, 0}, {0, GREATEST, 0}, {LEAST, 0, GREATEST}, {GREATEST, GREATEST, GREATEST}
            };
            for (int[] w : wrongOnes) {
                refused(day, "copy(" + s + ", " + s + ") " + Arrays.toString(w), INDEX,
                    x -> x.copy(s, w[0], s, w[1], w[2]));
            }
        }
    }

    /** Things that this day does not have, though another may. */
    private static void refusedOnSomeDay(Day day) {
        for (int line = 3; line <= 9; line++) {
            int v = line;
            for (int what = 0; what < 3; what++) {
                int w = what;
                refused(day, "line(" + v + ", " + w + ")", BAD, x -> x.line(v, w));
                refused(day, "margin(" + v + ", " + w + ")", BAD, x -> x.margin(v, w));
            }
            refused(day, "kind(" + v + ")", BAD, x -> x.kind(v));
            refused(day, "chance(5, " + v + ", 1)", LONG_BAD, x -> x.chance(5, v, 1));
        }
        for (int reader = 2; reader <= 5; reader++) {
            int v = reader;
            for (int what = 0; what < 4; what++) {
                int w = what;
                refused(day, "reader(" + v + ", " + w + ")", BAD, x -> x.reader(v, w));
                refused(day, "night(" + v + ", " + w + ")", BAD, x -> x.night(v, w));
            }
            refused(day, "keens(" + v + ")", BAD, x -> x.keens(v));
            refused(day, "ask(" + v + ")", BAD, x -> x.ask(v));
        }
        for (int i = 4; i <= 15; i++) {
            int v = i;
            refused(day, "done(" + v + ", 0)", BAD, x -> x.done(v, 0));
            refused(day, "done(" + v + ", 1)", BAD, x -> x.done(v, 1));
        }
    }

    private static void refusedWhereFull(Day day) {
        for (int text = 0; text < 3; text++) {
            int t = text;
            for (int b : new int[] {0, ';', '1', 'l', 255}) {
                refused(day, "type(" + t + ", " + b + ")", FULL, x -> x.type(t, b));
            }
        }
        refused(day, "event(0, 0, 0)", FULL, x -> x.event(0, 0, 0));
        refused(day, "event(1, 5, 23)", FULL, x -> x.event(1, 5, 23));
        for (int is = 0; is < 2; is++) {
            int v = is;
            refused(day, "seen(0, 0, " + v + ")", FULL, x -> x.seen(0, 0, v));
            refused(day, "seen(23, 9, " + v + ")", FULL, x -> x.seen(23, 9, v));
        }
        // read() is not refused there: none comes.
        for (int sheet = 0; sheet < 3; sheet++) {
            int s = sheet;
            asks(day, "read(" + s + ")", x -> x.read(s));
        }
    }

    private static void refusedWhereEmpty(Day day) {
        for (int text = 0; text < 3; text++) {
            int t = text;
            refused(day, "undo(" + t + ")", NOT, x -> x.undo(t));
        }
        refused(day, "back()", NOT, x -> x.back());
        refused(day, "line(0, 0)", BAD, x -> x.line(0, 0));
        refused(day, "margin(0, 0)", BAD, x -> x.margin(0, 0));
        refused(day, "kind(0)", BAD, x -> x.kind(0));
        refused(day, "chance(5, 0, 0)", LONG_BAD, x -> x.chance(5, 0, 0));
        refused(day, "reader(0, 0)", BAD, x -> x.reader(0, 0));
        refused(day, "night(0, 0)", BAD, x -> x.night(0, 0));
        refused(day, "keens(0)", BAD, x -> x.keens(0));
        refused(day, "ask(0)", BAD, x -> x.ask(0));
        refused(day, "done(0, 0)", BAD, x -> x.done(0, 0));
    }

    /** What is empty is refused, and what is not stays. */
    private static void refusedWhereOneIsEmpty() {
        for (int text = 0; text < 3; text++) {
            int t = text;
            Day wiped = new Day("a day without text " + t, () -> {
                ProofDay x = someDay();
                x.wipe(t);
                return x;
            });
            refused(wiped, "undo(" + t + ")", NOT, x -> x.undo(t));
        }
        Day quiet = new Day("a day without events", () -> {
            ProofDay x = someDay();
            while (x.count(6) > 0) {
                x.back();
            }
            return x;
        });
        refused(quiet, "back()", NOT, x -> x.back());
    }

    /** A text with a fault has none of its things, though its bytes are there. */
    private static void refusedWithFaults() {
        Day lines = new Day("a fault in lines", () -> day("l2;t9;d5;", "a5;q4", "01;10"));
        refused(lines, "line(0, 0)", BAD, x -> x.line(0, 0));
        refused(lines, "margin(0, 0)", BAD, x -> x.margin(0, 0));
        refused(lines, "kind(0)", BAD, x -> x.kind(0));
        refused(lines, "chance(5, 0, 0)", LONG_BAD, x -> x.chance(5, 0, 0));
        Day readers = new Day("a fault in readers", () -> day("l2;t9;d5", "a5;q", "01;10"));
        refused(readers, "reader(0, 0)", BAD, x -> x.reader(0, 0));
        refused(readers, "night(0, 0)", BAD, x -> x.night(0, 0));
        refused(readers, "keens(0)", BAD, x -> x.keens(0));
        refused(readers, "ask(0)", BAD, x -> x.ask(0));
        Day shifts = new Day("a fault in shifts", () -> day("l2;t9;d5", "a5;q4", "01;60"));
        refused(shifts, "done(0, 0)", BAD, x -> x.done(0, 0));
    }

    // ---- questions

    private static void questions(Day day) {
        for (int n = 0; n < 4; n++) {
            int v = n;
            String arg = "(" + v + ")";
            asks(day, "fault" + arg, x -> x.fault(v));
            asks(day, "line" + arg, x -> x.line(v, v));
            asks(day, "reader" + arg, x -> x.reader(v, v));
            asks(day, "shift" + arg, x -> x.shift(v, v));
            asks(day, "margin" + arg, x -> x.margin(v, v));
            asks(day, "night" + arg, x -> x.night(v, v));
            asks(day, "done" + arg, x -> x.done(v, v));
            asks(day, "marked" + arg, x -> x.marked(v));
            asks(day, "left" + arg, x -> x.left(v));
            asks(day, "more" + arg, x -> x.more(v));
            asks(day, "turn" + arg, x -> x.turn(v));
            asks(day, "hush" + arg, x -> x.hush(v - 1));
            asks(day, "keens" + arg, x -> x.keens(v));
            asks(day, "kind" + arg, x -> x.kind(v));
            asks(day, "ask" + arg, x -> x.ask(v));
            asks(day, "chance" + arg, x -> x.chance(5 * v, v, 0));
            asks(day, "days" + arg, x -> x.days(v, 5 * v, 0));
        }
        asks(day, "harm()", x -> x.harm());
        asks(day, "worst()", x -> x.worst());
        asks(day, "late()", x -> x.late());
        asks(day, "never()", x -> x.never());
        asks(day, "days(7, 16, 1)", x -> x.days(7, 16, 1));
        asks(day, "digest()", x -> x.digest());
        for (int what = 0; what <= 8; what++) {
            int w = what;
            asks(day, "count(" + w + ")", x -> x.count(w));
        }
        for (int sheet = 0; sheet < 3; sheet++) {
            int s = sheet;
            asks(day, "get(" + s + ")", x -> x.get(s, s, LENGTHS[s] - 1));
        }
    }

    /** What is answered doesn't hang on what was asked ahead of it. */
    private static void questionsInTurn(Day day) {
        List<Call> calls = List.of(x -> x.margin(0, 0), x -> x.night(0, 1), x -> x.marked(2), x -> x.harm(),
            x -> x.worst(), x -> x.left(1));
        List<Call> tries = List.of(x -> x.more(2), x -> x.late(), x -> x.turn(2), x -> x.hush(NONE), x -> x.never(),
            x -> x.keens(0), x -> x.kind(0), x -> x.ask(0), x -> x.chance(5, 0, 0), x -> x.days(7, 12, 0));
        List<Call> all = new ArrayList<>(calls);
        all.addAll(tries);
        long[] alone = new long[all.size()];
        for (int i = 0; i < alone.length; i++) {
            alone[i] = all.get(i).on(day.maker.get());
        }
        for (Call first : tries) {
            ProofDay x = day.maker.get();
            for (int i = 0; i < alone.length; i++) {
                first.on(x);
                due(day.name + ": question " + i + " behind another", all.get(i).on(x), alone[i]);
            }
        }
    }
}
