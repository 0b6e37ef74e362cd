import java.lang.annotation.ElementType;
import java.lang.annotation.Retention;
import java.lang.annotation.RetentionPolicy;
import java.lang.annotation.Target;
import java.lang.reflect.Method;
import java.nio.file.Files;
import java.nio.file.Path;
import java.util.Arrays;
import java.util.Comparator;

/**
 * Each sentence of the document that names an edge (too small, too large, empty, full, a wrap-around, of like ones)
 * has a method of its own here, which quotes it; the answers due are worked out by hand. That refused calls change
 * nothing stands in ProofDayRefusals.
 */
public final class ProofDayEdges {
    private static final int NONE = -1, BAD = -2, NOT = -3, FULL = -4;
    private static final int NULL = -11, INDEX = -12, CAST = -13, STORE = -14, SIZE = -15;
    private static final int LEAST = Integer.MIN_VALUE, GREATEST = Integer.MAX_VALUE;
    private static final int COUGH = 0, COFFEE = 1;
    private static final int PROMISES = 39;
    private static final int[] ROOM = {29, 17, 47};
    private static final int[] MOST = {10, 6, 16};
    private static final String[] HEADS = {"ldt", "aqo", "012345"};
    private static final String[] FIGURES = {"123456789", "123456789", "0123456789"};

    /** The sentence that a method tests, and the promise in whose section it stands (0: ahead of them). */
    @Retention(RetentionPolicy.RUNTIME)
    @Target(ElementType.METHOD)
    private @interface Says {
        int promise() default 0;

        String value();
    }

    private static int wrong = 0;
    private static int asked = 0;
    private static String sentence = "";

    private static void due(String call, long got, long want) {
        asked++;
        if (got != want) {
            wrong++;
            System.out.println("\"" + sentence + "\": " + call + " answered " + got + ", due is " + want);
        }
    }

    private static void holds(boolean so, String what) {
        if (!so) {
            wrong++;
            System.out.println("not so: " + what);
        }
    }

    public static void main(String[] args) throws Exception {
        Method[] methods = ProofDayEdges.class.getDeclaredMethods();
        Arrays.sort(methods, Comparator.comparing(Method::getName));
        boolean[] tested = new boolean[PROMISES + 1];
        int sentences = 0;
        for (Method m : methods) {
            Says says = m.getAnnotation(Says.class);
            if (says != null) {
                sentence = says.value();
                int before = asked;
                m.invoke(null);
                holds(asked > before, m.getName() + " asks something");
                tested[says.promise()] = true;
                lookUp(says);
                sentences++;
            }
        }
        for (int i = 1; i <= PROMISES; i++) {
            holds(tested[i], "promise " + i + " has a test");
        }
        System.out.println(wrong == 0 ? sentences + " sentences hold, " + asked + " answers are as due"
            : wrong + " answers are not as due");
        if (wrong != 0) {
            System.exit(1);
        }
    }

    /** Tells of a quotation that stands no more in its section; the class is not at fault then, so nothing fails. */
    private static void lookUp(Says says) throws Exception {
        // .ci/run starts the tests from the root of the project.
        Path path = Path.of("..", "shared", "DOC.md");
        if (!Files.exists(path)) {
            return;
        }
        String text = Files.readString(path).replaceAll("\\s+", " ");
        int from = says.promise() == 0 ? 0 : text.indexOf("## Promise " + says.promise() + ":");
        int to = text.indexOf("## ", from + 4);
        String section = says.promise() == 0 ? text : text.substring(from, to < 0 ? text.length() : to);
        if (!section.contains(says.value())) {
            System.out.println("look again, the document no longer says: " + says.value());
        }
    }

    private static void typed(ProofDay x, int text, String signs) {
        for (int i = 0; i < signs.length(); i++) {
            x.type(text, signs.charAt(i));
        }
    }

    private static ProofDay day(String lines, String readers, String shifts) {
        ProofDay x = new ProofDay();
        typed(x, 0, lines);
        typed(x, 1, readers);
        typed(x, 2, shifts);
        return x;
    }

    /** The same part many times, with ; between. */
    private static String times(int many, String part) {
        return many == 0 ? "" : part + (";" + part).repeat(many - 1);
    }

    private static String fullText(int text) {
        return times(MOST[text], "" + HEADS[text].charAt(0) + FIGURES[text].charAt(0));
    }

    private static ProofDay withEvents(ProofDay x, int many, int kind, int reader, int minute) {
        for (int i = 0; i < many; i++) {
            x.event(kind, reader, minute);
        }
        return x;
    }

    private static ProofDay withSheet(int form, int... items) {
        ProofDay x = new ProofDay();
        x.sheet(0, form, items.length);
        for (int i = 0; i < items.length; i++) {
            x.lay(0, form, i, items[i]);
        }
        return x;
    }

    private static void items(ProofDay x, int s, int form, int... want) {
        for (int i = 0; i < want.length; i++) {
            due("get(" + s + ", " + form + ", " + i + ")", x.get(s, form, i), want[i]);
        }
    }

    private static void triple(String call, int[] got, int... want) {
        for (int i = 0; i < want.length; i++) {
            due(call + "(" + i + ")", got[i], want[i]);
        }
    }

    private static int[] moreOf(ProofDay x) {
        return new int[] {x.more(0), x.more(1), x.more(2)};
    }

    private static int[] turnOf(ProofDay x) {
        return new int[] {x.turn(0), x.turn(1), x.turn(2)};
    }

    private static int[] hushOf(ProofDay x) {
        return new int[] {x.hush(NONE), x.hush(0), x.hush(1)};
    }

    // ---- the texts

    private static void roomOf(int text) {
        String full = fullText(text);
        ProofDay x = new ProofDay();
        due("length of a full text", full.length(), ROOM[text]);
        for (int i = 0; i < full.length(); i++) {
            due("type", x.type(text, full.charAt(i)), i + 1);
        }
        due("type: full", x.type(text, ';'), FULL);
        due("count of bytes", x.count(3 + text), ROOM[text]);
        due("count of things", x.count(text), MOST[text]);
        due("fault", x.fault(text), NONE);
        due("undo makes room", x.undo(text), ROOM[text] - 1);
        due("type: room again", x.type(text, '9'), ROOM[text]);
        due("type: full again", x.type(text, '9'), FULL);
    }

    @Says("LINES are a text of up to 29 bytes (text 0), 10 at most (0 on), with ; between them")
    private static void t01Lines() {
        roomOf(0);
        ProofDay x = day("l1;l2;l3;l4;l5;l6;l7;l8;l9;d1", "", "");
        due("line: the first", x.line(0, 1), 1);
        due("line: the tenth", x.line(9, 0), 1);
        due("line: an eleventh", x.line(10, 0), BAD);
        due("line: below the first", x.line(-1, 0), BAD);
    }

    @Says("READERS are a text of up to 17 bytes (text 1), 6 at most (0 on), with ; between them")
    private static void t02Readers() {
        roomOf(1);
        ProofDay x = day("", "a1;q2;o3;a4;q5;o6", "");
        due("reader: the first", x.reader(0, 1), 1);
        due("reader: the sixth", x.reader(5, 1), 6);
        due("reader: a seventh", x.reader(6, 1), BAD);
        due("reader: below the first", x.reader(-1, 1), BAD);
    }

    @Says("SHIFTS are a text of up to 47 bytes (text 2), 16 at most (0 on), with ; between them")
    private static void t03Shifts() {
        roomOf(2);
        ProofDay x = day("", "", "01;" + times(14, "22") + ";59");
        due("shift: the first", x.shift(0, 1), 1);
        due("shift: the sixteenth", x.shift(15, 0), 5);
        due("shift: a seventeenth", x.shift(16, 0), BAD);
        due("shift: below the first", x.shift(-1, 0), BAD);
    }

    /** Every byte there is, behind a start: where the fault is then, tells whether the text can go on with it. */
    private static void goesOnWith(int text, String start, String allowed) {
        for (int b = 0; b < 256; b++) {
            ProofDay x = new ProofDay();
            typed(x, text, start);
            x.type(text, b);
            boolean well = allowed.indexOf((char) b) >= 0;
            int end = start.length() % 3 == 1 ? NONE : start.length() + 1;
            due("fault of \"" + start + "\" and byte " + b, x.fault(text), well ? end : start.length());
        }
    }

    @Says("l (a literal, HARD 1), d (a dele, 3) or t (transposed, 5), and a figure 1 to 9, how GRAVE.")
    private static void t04LinePairs() {
        goesOnWith(0, "", "ldt");
        goesOnWith(0, "l", "123456789");
        goesOnWith(0, "d", "123456789");
        goesOnWith(0, "t", "123456789");
        goesOnWith(0, "l1", ";");
        goesOnWith(0, "l1;", "ldt");
        ProofDay x = day("l1;d9;t5", "", "");
        triple("line 0", new int[] {x.line(0, 0), x.line(0, 1), x.line(0, 2)}, 0, 1, 1);
        triple("line 1", new int[] {x.line(1, 0), x.line(1, 1), x.line(1, 2)}, 1, 9, 3);
        triple("line 2", new int[] {x.line(2, 0), x.line(2, 1), x.line(2, 2)}, 2, 5, 5);
    }

    @Says("a (aloud), q (quiet) or o (old), and a figure 1 to 9, how KEEN.")
    private static void t05ReaderPairs() {
        goesOnWith(1, "", "aqo");
        goesOnWith(1, "a", "123456789");
        goesOnWith(1, "q", "123456789");
        goesOnWith(1, "o", "123456789");
        goesOnWith(1, "q9", ";");
        goesOnWith(1, "q9;", "aqo");
        ProofDay x = day("", "a1;q9;o5", "");
        for (int i = 0; i < 3; i++) {
            due("reader sort", x.reader(i, 0), i);
            due("reader keen", x.reader(i, 1), new int[] {1, 9, 5}[i]);
        }
    }

    @Says("a figure 0 to 5, the READER, and a figure 0 to 9, the LINE.")
    private static void t06ShiftPairs() {
        goesOnWith(2, "", "012345");
        goesOnWith(2, "0", "0123456789");
        goesOnWith(2, "5", "0123456789");
        goesOnWith(2, "59", ";");
        goesOnWith(2, "59;", "012345");
        ProofDay x = day("", "", "00;59");
        due("shift: least reader", x.shift(0, 0), 0);
        due("shift: least line", x.shift(0, 1), 0);
        due("shift: greatest reader", x.shift(1, 0), 5);
        due("shift: greatest line", x.shift(1, 1), 9);
    }

    @Says("The FAULT of a text is the place of the first byte with which it cannot go on")
    private static void t07FirstFault() {
        for (int text = 0; text < 3; text++) {
            String full = fullText(text);
            for (int place = 0; place < full.length(); place++) {
                ProofDay x = new ProofDay();
                typed(x, text, full.substring(0, place) + "x" + full.substring(place + 1));
                due("fault of a full text, spoilt at " + place, x.fault(text), place);
                due("things in it", x.count(text), 0);
            }
            ProofDay x = new ProofDay();
            typed(x, text, full.substring(0, 4) + "xx;x");
            due("fault: the first of some", x.fault(text), 4);
        }
    }

    @Says("(an empty one is well; of one that is not ended, as behind a ;, its end)")
    private static void t08NotEnded() {
        for (int text = 0; text < 3; text++) {
            String full = fullText(text);
            for (int length = 0; length <= full.length(); length++) {
                ProofDay x = new ProofDay();
                typed(x, text, full.substring(0, length));
                boolean ended = length == 0 || length % 3 == 2;
                due("fault of the first " + length + " bytes", x.fault(text), ended ? NONE : length);
                due("things in them", x.count(text), ended ? (length + 1) / 3 : 0);
            }
        }
    }

    @Says("here also of the first byte of an eleventh LINE, of a seventh READER, of a seventeenth SHIFT.")
    private static void t09OneTooMany() {
        // The room ends with the last one that may be: neither a ; nor a first byte of one more comes in.
        for (int text = 0; text < 3; text++) {
            ProofDay x = new ProofDay();
            typed(x, text, fullText(text) + ";" + HEADS[text].charAt(0));
            due("bytes", x.count(3 + text), ROOM[text]);
            due("things", x.count(text), MOST[text]);
            due("fault", x.fault(text), NONE);
        }
    }

    @Says("With a FAULT a text is as if it was empty.")
    private static void t10LinesWithFault() {
        ProofDay x = day("l4;d3", "q9;q9", "00;11");
        x.seen(0, 0, 1);
        x.type(0, ';');
        due("bytes stay", x.count(3), 6);
        due("no lines", x.count(0), 0);
        due("line", x.line(0, 0), BAD);
        due("margin", x.margin(0, 0), BAD);
        due("kind", x.kind(0), BAD);
        due("chance", x.chance(5, 0, 0), Long.MIN_VALUE + 2);
        due("done", x.done(0, 0), NONE);
        due("night", x.night(0, 0), 0);
        due("marked", x.marked(23), 0);
        due("harm", x.harm(), 0);
        due("worst", x.worst(), NONE);
        due("unread", x.left(0), 0);
        due("more", x.more(0), NONE);
        due("late", x.late(), 1);
        due("keens: line 0 is not there", x.keens(0), 0);
        due("days", x.days(1, 16, 0), 0);
        due("other texts stay", x.count(1) * 10 + x.count(2), 22);
        x.undo(0);
        due("harm, mended", x.harm(), 0);
        due("lines, mended", x.count(0), 2);
        due("night, mended", x.night(0, 0), 1);
    }

    @Says("With a FAULT a text is as if it was empty.")
    private static void t11ReadersWithFault() {
        ProofDay x = day("l4;d3", "q9;q9", "00;11");
        x.type(1, 'q');
        due("bytes stay", x.count(4), 6);
        due("no readers", x.count(1), 0);
        due("reader", x.reader(0, 0), BAD);
        due("night", x.night(0, 0), BAD);
        due("keens", x.keens(0), BAD);
        due("ask", x.ask(0), BAD);
        due("done", x.done(0, 0), NONE);
        due("margin", x.margin(0, 2), 0);
        due("harm", x.harm(), 7);
        due("unread", x.left(0), 3);
        due("more", x.more(2), NONE);
        due("late", x.late(), NONE);
        due("days", x.days(1, 16, 1), 2);
        due("other texts stay", x.count(0) * 10 + x.count(2), 22);
    }

    @Says("With a FAULT a text is as if it was empty.")
    private static void t12ShiftsWithFault() {
        ProofDay x = day("l4;d3", "q9;q9", "00;11");
        x.type(2, '1');
        due("bytes stay", x.count(5), 6);
        due("no shifts", x.count(2), 0);
        due("shift", x.shift(0, 0), NONE);
        due("done", x.done(0, 0), BAD);
        due("night", x.night(0, 0), 0);
        due("harm", x.harm(), 7);
        triple("more", moreOf(x), 0, 0, 3);
        triple("turn", turnOf(x), NONE, NONE, NONE);
        due("other texts stay", x.count(0) * 10 + x.count(1), 22);
    }

    // ---- minutes, limit, events

    @Says("MINUTES are 0 to 23.")
    private static void u01Minutes() {
        ProofDay x = new ProofDay();
        due("event 0", x.event(COUGH, 0, 0), 1);
        due("event 23", x.event(COUGH, 0, 23), 2);
        due("event 24", x.event(COUGH, 0, 24), BAD);
        due("event -1", x.event(COUGH, 0, -1), BAD);
        due("seen 0", x.seen(0, 0, 0), 1);
        due("seen 23", x.seen(23, 0, 0), 2);
        due("seen 24", x.seen(24, 0, 0), BAD);
        due("seen -1", x.seen(-1, 0, 0), BAD);
        due("marked 0", x.marked(0), 0);
        due("marked 23", x.marked(23), 0);
        due("marked 24", x.marked(24), BAD);
        due("marked -1", x.marked(-1), BAD);
    }

    @Says("LIMIT (1 to 24; 12 at first).")
    private static void u02Limit() {
        ProofDay x = day("l1", "q9", times(16, "00"));
        due("twelve at first", x.night(0, 0), 12);
        due("the thirteenth is not done", x.done(12, 0), NONE);
        due("limit 1", x.limit(1), 12);
        due("one alone", x.night(0, 0), 1);
        due("limit 0", x.limit(0), BAD);
        due("limit 25", x.limit(25), BAD);
        due("it stays", x.night(0, 0), 1);
        due("limit 24", x.limit(24), 1);
        due("all of them", x.night(0, 0), 16);
        due("limit, what it was", x.limit(24), 24);
    }

    @Says("EVENTS, 8 at most (0 on): a kind, a READER (0 to 5), a MINUTE")
    private static void u03Events() {
        ProofDay x = day("l1", "q9", "00");
        for (int i = 0; i < 7; i++) {
            due("event of one who is not there", x.event(i % 2, 5, 23), i + 1);
        }
        due("the eighth", x.event(COUGH, 0, 0), 8);
        due("a ninth", x.event(COUGH, 0, 0), FULL);
        due("the eighth tells", x.harm(), 1);
        due("the eighth is 7", x.hush(0), 7);
        due("back makes room", x.back(), 7);
        due("the eighth tells no more", x.harm(), 0);
        due("room again", x.event(COUGH, 0, 0), 8);
        due("reader 6", x.event(COUGH, 6, 0), BAD);
        due("reader -1", x.event(COUGH, -1, 0), BAD);
    }

    @Says("0 a COUGH, 1 a COFFEE.")
    private static void u04Kinds() {
        due("a cough", withEvents(day("l1", "q9", "00"), 1, 0, 0, 0).harm(), 1);
        due("a coffee", withEvents(day("l1", "q9", "00"), 1, 1, 0, 0).harm(), 0);
        due("a coffee wakes", withEvents(day("l1", "q9", "00;00"), 1, 1, 0, 1).night(0, 1), 1);
        due("a cough doesn't", withEvents(day("l1", "q9", "00;00"), 1, 0, 0, 1).night(0, 1), 2);
        ProofDay x = new ProofDay();
        due("kind 2", x.event(2, 0, 0), BAD);
        due("kind -1", x.event(-1, 0, 0), BAD);
    }

    // ---- the night

    private static void begins(ProofDay x, int... want) {
        for (int i = 0; i < want.length; i++) {
            due("done(" + i + ", 0)", x.done(i, 0), want[i]);
        }
    }

    private static void finds(ProofDay x, int... want) {
        for (int i = 0; i < want.length; i++) {
            due("done(" + i + ", 1)", x.done(i, 1), want[i]);
        }
    }

    @Says("Each READER does those SHIFTS that are for that one, of LINES that are there, one behind the other, "
        + "as told, from MINUTE 0 on")
    private static void v01ShiftsInTurn() {
        begins(day("l1;l1", "q9;q9", "00;10;01;11;00"), 0, 0, 1, 1, 2);
        begins(day("l1;l1", "q9", "01;00"), 0, 1);
        // Line 2 is the first that is not there, reader 1 the first who isn't: no minute goes by.
        begins(day("l1;l1", "q9", "02;01;09;00;10;50"), NONE, 0, NONE, 1, NONE, NONE);
        ProofDay x = day("l1;l1", "q9", "02;01;09");
        due("done by the reader", x.night(0, 0), 1);
        due("tired", x.night(0, 1), 1);
    }

    @Says("one who reads aloud needs 2 MINUTES for each, others 1")
    private static void v02Pace() {
        ProofDay x = day("l1", "a9;q9;o9", "00;00;00;10;10;10;20;20;20");
        begins(x, 0, 2, 4, 0, 1, 2, 0, 1, 2);
        due("aloud, last minute", x.night(0, 2), 5);
        due("quiet, last minute", x.night(1, 2), 2);
        due("old, last minute", x.night(2, 2), 2);
    }

    @Says("a SHIFT that would have a MINUTE of LIMIT or later is not done, nor is any one behind it.")
    private static void v03PastLimit() {
        for (int limit = 1; limit <= 24; limit++) {
            ProofDay x = day("l1", "a9;q9", times(8, "00") + ";" + times(8, "10"));
            x.limit(limit);
            int aloud = Math.min(limit / 2, 8);
            int quiet = Math.min(limit, 8);
            due("aloud by " + limit, x.night(0, 0), aloud);
            due("quiet by " + limit, x.night(1, 0), quiet);
            due("read by " + limit, x.margin(0, 2), aloud + quiet);
            due("aloud tired by " + limit, x.night(0, 1), 2 * aloud);
            due("quiet tired by " + limit, x.night(1, 1), quiet);
            for (int i = 0; i < 8; i++) {
                due("aloud begins " + i, x.done(i, 0), i < aloud ? 2 * i : NONE);
                due("quiet begins " + i, x.done(8 + i, 0), i < quiet ? i : NONE);
            }
        }
        ProofDay x = day("l1", "a9", times(16, "00"));
        x.limit(24);
        due("aloud, twelve fill the day", x.night(0, 0), 12);
        due("aloud, the last minute of all", x.night(0, 2), 23);
        due("aloud, the thirteenth", x.done(12, 0), NONE);
        due("such a one finds nothing", x.done(12, 1), 0);
    }

    @Says("At first a READER is TIRED by 0.")
    private static void v04NotTired() {
        ProofDay x = day("t9", "q5;q5", "00");
        due("just keen enough", x.done(0, 1), 1);
        due("one who does nothing", x.night(1, 1), 0);
    }

    private static int tiredBehind(String readers, int shifts, int... coffees) {
        ProofDay x = day("l1", readers, times(shifts, "00"));
        for (int minute : coffees) {
            x.event(COFFEE, 0, minute);
        }
        return x.night(0, 1);
    }

    @Says("Ahead of each SHIFT one is less TIRED by 3, 0 at least, for each COFFEE of that READER")
    private static void v05LessTired() {
        due("by 1: 0", tiredBehind("q9", 2, 1), 1);
        due("by 2: 0", tiredBehind("q9", 3, 2), 1);
        due("by 3: 0", tiredBehind("q9", 4, 3), 1);
        due("by 4: 1", tiredBehind("q9", 5, 4), 2);
        due("by 6, two: 0", tiredBehind("q9", 7, 6, 6), 1);
        due("by 5, two: 0", tiredBehind("q9", 6, 5, 5), 1);
        due("by 7, two: 1", tiredBehind("q9", 8, 7, 7), 2);
        due("by 0, one: 0", tiredBehind("q9", 1, 0), 1);
        due("by 0, eight: 0", tiredBehind("q9", 1, 0, 0, 0, 0, 0, 0, 0, 0), 1);
        ProofDay x = withEvents(day("l1", "q9;q9", times(4, "00")), 8, COFFEE, 1, 3);
        due("another's", x.night(0, 1), 4);
        ProofDay y = withEvents(day("d9", "q4", "00;00"), 1, COUGH, 0, 0);
        due("4 less 1 is no less than 3", y.harm(), 0);
        typed(y, 2, ";00");
        y.event(COUGH, 0, 1);
        due("4 less 2 is less than 3", y.harm(), 9);
        y.event(COFFEE, 0, 2);
        due("awake", y.harm(), 0);
    }

    @Says("in a MINUTE behind that in which the SHIFT ahead began, up to that in which this one begins "
        + "(ahead of the first one: in MINUTE 0).")
    private static void v06CoffeeMinutes() {
        int[] quiet = {4, 3, 2, 1, 4};
        for (int minute = 0; minute < quiet.length; minute++) {
            due("quiet, coffee in " + minute, tiredBehind("q9", 4, minute), quiet[minute]);
        }
        int[] aloud = {6, 4, 4, 3, 3, 6, 6};
        for (int minute = 0; minute < aloud.length; minute++) {
            due("aloud, coffee in " + minute, tiredBehind("a9", 3, minute), aloud[minute]);
        }
        due("aloud, both minutes", tiredBehind("a9", 4, 5, 6), 2);
        due("aloud, one minute, then the next shift's", tiredBehind("a9", 4, 4, 5), 2);
        ProofDay x = withEvents(day("l1", "q9", times(4, "00")), 1, COFFEE, 0, 3);
        x.limit(3);
        due("ahead of one that is not done", x.night(0, 1), 3);
    }

    @Says("A SHIFT FINDS what is wrong with its LINE, if there is no COUGH of that READER in its MINUTES")
    private static void v07Coughs() {
        int[][] aloud = {{0, 1, 1}, {0, 1, 1}, {1, 0, 1}, {1, 0, 1}, {1, 1, 0}, {1, 1, 0}, {1, 1, 1}};
        for (int minute = 0; minute < aloud.length; minute++) {
            finds(withEvents(day("l1", "a9", "00;00;00"), 1, COUGH, 0, minute), aloud[minute]);
        }
        int[][] quiet = {{0, 1, 1}, {1, 0, 1}, {1, 1, 0}, {1, 1, 1}};
        for (int minute = 0; minute < quiet.length; minute++) {
            finds(withEvents(day("l1", "q9", "00;00;00"), 1, COUGH, 0, minute), quiet[minute]);
        }
        finds(withEvents(day("l1", "q9;q9", "00"), 8, COUGH, 1, 0), 1);
        finds(withEvents(day("l1", "q9", "00"), 8, COFFEE, 0, 0), 1);
        ProofDay x = withEvents(day("l1", "a9", times(12, "00")), 7, COFFEE, 0, 21);
        x.limit(24);
        due("the last minute of all", x.done(11, 1), 1);
        x.event(COUGH, 0, 23);
        due("a cough in it", x.done(11, 1), 0);
        due("it is done all the same", x.done(11, 0), 22);
    }

    @Says("and how KEEN one is (aloud by 2 more), less how TIRED, is no less than how HARD the LINE is")
    private static void v08KeenEnough() {
        int[] hard = {1, 3, 5};
        for (int keen = 1; keen <= 9; keen++) {
            for (int sort = 0; sort < 3; sort++) {
                String line = "ldt".charAt(sort) + "9";
                String call = keen + " against " + hard[sort];
                due("quiet " + call, day(line, "q" + keen, "00").done(0, 1), keen >= hard[sort] ? 1 : 0);
                due("old " + call, day(line, "o" + keen, "00").done(0, 1), keen >= hard[sort] ? 1 : 0);
                due("aloud " + call, day(line, "a" + keen, "00").done(0, 1), keen + 2 >= hard[sort] ? 1 : 0);
            }
        }
        finds(day("d9", "q5", "00;00;00;00"), 1, 1, 1, 0);
        finds(day("l9", "q1", "00;00;00"), 1, 0, 0);
        finds(day("t9", "a5", "00;00;00"), 1, 1, 0);
        finds(day("t9;l9", "q9", "00;00;00;00;00;00;01;01;01;01"), 1, 1, 1, 1, 1, 0, 1, 1, 1, 0);
    }

    @Says("but an old one passes over all that are less GRAVE than 3.")
    private static void v09OldOnes() {
        for (int grave = 1; grave <= 9; grave++) {
            ProofDay x = day("l" + grave, "o9", "00");
            due("old, grave " + grave, x.done(0, 1), grave < 3 ? 0 : 1);
            due("it is read", x.margin(0, 2), 1);
            due("passed", x.left(1), grave < 3 ? 1 : 0);
            due("tired of it", x.night(0, 1), 1);
        }
        due("quiet, grave 1", day("l1", "q9", "00").done(0, 1), 1);
        due("aloud, grave 1", day("l1", "a9", "00").done(0, 1), 1);
    }

    @Says("Then one is TIRED by 1 more (aloud by 2).")
    private static void v10MoreTired() {
        ProofDay x = day("t1", "a9;q9;o9;a1;q1", "00;10;20;30;40");
        int[] tired = {2, 1, 1, 2, 1};
        for (int reader = 0; reader < 5; reader++) {
            due("tired(" + reader + ")", x.night(reader, 1), tired[reader]);
        }
        due("one who coughs", withEvents(day("l1", "a9", "00"), 1, COUGH, 0, 0).night(0, 1), 2);
        ProofDay y = day("l1", "a9", times(12, "00"));
        y.limit(24);
        due("at most", y.night(0, 1), 24);
    }

    private static void corrected(String readers, String shifts, int by, int minute) {
        ProofDay x = day("l9;l9", readers, shifts);
        due("by whom, " + readers + " " + shifts, x.margin(0, 0), by);
        due("minute, " + readers + " " + shifts, x.margin(0, 1), minute);
    }

    @Says("A LINE is CORRECTED by the SHIFT that FINDS it and ends first, of like ones of the least READER.")
    private static void v11Corrected() {
        corrected("a9;q9", "00;10", 1, 0);
        corrected("q9;q9", "10;00", 0, 0);
        corrected("q9;q9;q9", "20;10", 1, 0);
        // Ending alike, whoever began first.
        corrected("a9;q9", "00;11;10", 0, 1);
        corrected("q9;a9", "01;00;10", 0, 1);
        corrected("q9;a9", "10;01;00", 0, 1);
        corrected("q9;q9", "01;00;10", 1, 0);
        // The first that finds it, not the first that reads it.
        corrected("a9", "00;00", 0, 1);
        ProofDay x = withEvents(day("l9", "q9;a9", "00;00;10"), 2, COUGH, 0, 0);
        due("behind a cough", x.margin(0, 0) * 10 + x.margin(0, 1), 1);
        x.event(COUGH, 0, 1);
        due("by the other one", x.margin(0, 0) * 10 + x.margin(0, 1), 11);
        x.event(COUGH, 1, 0);
        due("by none", x.margin(0, 0), NONE);
    }

    @Says("HARM is how GRAVE all LINES together are that are not CORRECTED.")
    private static void v12Harm() {
        due("no lines", new ProofDay().harm(), 0);
        due("the most", day(times(10, "t9"), "", "").harm(), 90);
        due("the least", day("l1", "", "").harm(), 1);
        due("the tenth alone", day(times(9, "l1") + ";l7", "q9;q9", "00;01;02;03;04;15;16;17;18").harm(), 7);
        due("none", day("l9", "q1", "00").harm(), 0);
    }

    // ---- fractions, lots, sheets, findings

    private static void fraction(ProofDay x, int c, long above, long below) {
        due("chance(" + c + ", 0, 0)", x.chance(c, 0, 0), above);
        due("chance(" + c + ", 0, 1)", x.chance(c, 0, 1), below);
    }

    @Says("FRACTIONS are told in lowest terms, above and below (0 by 1).")
    private static void w01Fractions() {
        ProofDay x = withEvents(day("l9", "q9", "00"), 1, COUGH, 0, 0);
        long[][] want = {
            {1, 1}, {15, 16}, {7, 8}, {13, 16}, {3, 4}, {11, 16}, {5, 8}, {9, 16}, {1, 2}, {7, 16}, {3, 8}, {5, 16},
            {1, 4}, {3, 16}, {1, 8}, {1, 16}, {0, 1}
        };
        for (int c = 0; c <= 16; c++) {
            fraction(x, c, want[c][0], want[c][1]);
        }
        fraction(day("t9", "q1", "00"), 5, 0, 1);
        fraction(day("l9", "q1", "00"), 5, 1, 1);
        fraction(withEvents(day("l9", "q9", "00"), 8, COUGH, 0, 0), 16, 0, 1);
        fraction(withEvents(day("l9", "q9", "00"), 8, COUGH, 0, 0), 0, 1, 1);
        fraction(withEvents(day("l9", "q9", "00"), 8, COUGH, 0, 0), 8, 1, 256);
        fraction(withEvents(day("l9", "q9", "00"), 8, COUGH, 0, 0), 15, 1, 4294967296L);
        fraction(withEvents(day("l9", "q9", "00"), 8, COUGH, 5, 0), 7, 1, 1);
    }

    private static void harmOfDays(int seed, int... want) {
        ProofDay x = day("l1;l2;l4", "q9;q9", "");
        for (int n = 0; n < want.length; n++) {
            due("days(" + seed + ", " + n + ", 0)", x.days(seed, n, 0), want[n]);
        }
    }

    @Says("SEED becomes 1103515245 SEED and 12345, as ints that wrap")
    private static void w02SeedWraps() {
        // The lines drawn are: 2 0 0 0 1; 2 2 1 1 2 0; 1 0 2; 0 1 1 1 0 0.
        harmOfDays(0, 7, 3, 2, 2, 2, 0);
        harmOfDays(-1, 7, 3, 3, 1, 1, 1, 0);
        harmOfDays(GREATEST, 7, 5, 4, 0);
        harmOfDays(LEAST, 7, 6, 4, 4, 4, 4, 4);
    }

    @Says("its upper 16 bits as a number from 0 on, modulo m.")
    private static void w03UpperBits() {
        // From 12345 on: 54236 and 42756, both above 32767: reader 0 of 2 and line 0 of 3.
        ProofDay x = day("l1;l2;l4", "q9;q9", "");
        due("line 0", x.days(12345, 1, 0), 6);
        x.event(COUGH, 0, 0);
        due("by reader 0", x.days(12345, 1, 0), 7);
        // From -1 on: 48697 and 4409: reader 1 of 2.
        due("by reader 1", x.days(-1, 1, 0), 3);
        // From 2147483647 on: 15929 and 37177: reader 5 of 6, line 7 of 10.
        ProofDay y = day("l1;l1;l1;l1;l1;l1;l1;l9;l1;l1", "q9;q9;q9;q9;q9;q9", "");
        due("line 7 of 10", y.days(GREATEST, 1, 0), 9);
        y.event(COUGH, 5, 0);
        due("by reader 5 of 6", y.days(GREATEST, 1, 0), 18);
        due("a lot of 1 is 0", day("l5", "q9", "").days(-1, 1, 0), 0);
    }

    @Says("DAYS by a SEED: n SHIFTS (0 to 16), in place of those told (none where there are no READERS, or no LINES): "
        + "of each a LOT of READERS, a LOT of LINES")
    private static void w03Lots() {
        for (int seed : new int[] {0, 1, -1, 2, 77, 4711, -65536, 123456789, GREATEST, LEAST}) {
            long first = Math.floorMod(1103515245L * seed + 12345, 1L << 32);
            long second = Math.floorMod(1103515245L * first + 12345, 1L << 32);
            for (int many = 1; many <= 6; many++) {
                ProofDay x = day("l1", times(many, "q9"), "");
                for (int reader = 0; reader < many; reader++) {
                    x.event(COUGH, reader, 0);
                    int want = first / 65536 % many == reader ? 1 : 0;
                    due("by " + seed + " reader " + reader + " of " + many, x.days(seed, 1, 0), want);
                    x.back();
                }
            }
            String lines = "l1";
            for (int many = 1; many <= 9; many++) {
                int line = (int) (second / 65536 % many);
                int want = many * (many + 1) / 2 - (line + 1);
                due("by " + seed + " one line of " + many, day(lines, "q9", "").days(seed, 1, 0), want);
                lines += ";l" + (many + 1);
            }
        }
    }

    @Says("SHEETS 0 .. 3 are LOST (at first) or a row of a FORM: 0 bytes, 1 shorts, 2 ints, of 0 to 60 items "
        + "(0 at first).")
    private static void w04Sheets() {
        ProofDay x = new ProofDay();
        for (int s = 0; s < 4; s++) {
            due("lost at first", x.lose(s), NULL);
        }
        for (int form = 0; form < 3; form++) {
            due("no items", x.sheet(form, form, 0), 0);
            due("not even the first", x.lay(form, form, 0, 1), INDEX);
            due("sixty items", x.sheet(form, form, 60), 60);
            for (int i = 0; i < 60; i++) {
                due("0 at first", x.get(form, form, i), 0);
            }
            due("the last", x.lay(form, form, 59, 1), 1);
            due("behind the last", x.lay(form, form, 60, 1), INDEX);
        }
        due("sheet 3", x.sheet(3, 0, 1), 1);
        due("sheet 4", x.sheet(4, 0, 1), BAD);
        due("sheet -1", x.sheet(-1, 0, 1), BAD);
        due("form 3", x.sheet(0, 3, 1), BAD);
        due("form -1", x.sheet(0, -1, 1), BAD);
        due("61 items", x.sheet(0, 0, 61), BAD);
    }

    @Says("FINDINGS (answers -10 less the number; they change nothing but count() 8): 1 NULL: the SHEET is LOST; "
        + "2 INDEX: there is no such item; 3 CAST: it has another FORM; 4 STORE: unlike FORMS; 5 SIZE: below 0.")
    private static void w05Findings() {
        ProofDay x = withSheet(1, 7, 8);
        x.sheet(1, 2, 2);
        due("none before any", x.count(8), 0);
        due("STORE", x.copy(0, 0, 1, 0, 1), -14);
        due("its number", x.count(8), 4);
        due("NULL", x.lose(2), -11);
        due("its number", x.count(8), 1);
        due("SIZE", x.sheet(0, 1, -1), -15);
        due("its number", x.count(8), 5);
        due("INDEX", x.lay(0, 1, 2, 9), -12);
        due("its number", x.count(8), 2);
        due("CAST", x.lay(0, 2, 0, 9), -13);
        due("its number", x.count(8), 3);
        items(x, 0, 1, 7, 8);
        items(x, 1, 2, 0, 0);
        due("BAD is no finding", x.lose(4), BAD);
        due("the latest stays", x.count(8), 3);
    }

    // ---- what comes of the night

    @Says("Of a LINE: by whom it is CORRECTED; in which MINUTE (the last one of the SHIFT); how many SHIFTS that are "
        + "done read it; NONE.")
    private static void x01OfLine() {
        ProofDay x = day("l1;t9", "a9;q1", "00;11;11;00");
        triple("corrected", new int[] {x.margin(0, 0), x.margin(0, 1), x.margin(0, 2)}, 0, 1, 2);
        triple("passed", new int[] {x.margin(1, 0), x.margin(1, 1), x.margin(1, 2)}, NONE, NONE, 2);
        x.limit(3);
        due("those that are not done don't count", x.margin(0, 2), 1);
        x.limit(1);
        triple("unread", new int[] {x.margin(0, 0), x.margin(0, 1), x.margin(0, 2)}, NONE, NONE, 0);
        ProofDay y = day("l1", "q9;q9", times(8, "00") + ";" + times(8, "10"));
        due("read by all", y.margin(0, 2), 16);
    }

    @Says("Of a READER: how many SHIFTS are done; how TIRED one is behind them; the last MINUTE of these (NONE: none "
        + "is done); how many SHIFTS FIND.")
    private static void x02OfReader() {
        ProofDay x = day("l1", "a9;q2", "00;10;00;10;10");
        int[] aloud = {2, 4, 3, 2};
        int[] quiet = {3, 3, 2, 2};
        for (int what = 0; what < 4; what++) {
            due("aloud", x.night(0, what), aloud[what]);
            due("quiet", x.night(1, what), quiet[what]);
        }
        x.limit(1);
        int[] nothing = {0, 0, NONE, 0};
        int[] one = {1, 1, 0, 1};
        for (int what = 0; what < 4; what++) {
            due("none is done", x.night(0, what), nothing[what]);
            due("one is done", x.night(1, what), one[what]);
        }
    }

    @Says("Of the i-th SHIFT: the MINUTE in which it begins (NONE: it is not done); whether it FINDS.")
    private static void x03OfShift() {
        ProofDay x = day("l1;t9", "a1;q9", "00;01;00;10;12;20");
        begins(x, 0, 2, 4, 0, NONE, NONE);
        finds(x, 1, 0, 0, 1, 0, 0);
        x.limit(5);
        begins(x, 0, 2, NONE);
        finds(x, 1, 0, 0);
    }

    @Says("MARKED by a MINUTE: how many LINES are CORRECTED in it or ahead.")
    private static void x04Marked() {
        ProofDay x = day("l1;l1;t1", "a9", "01;00;01");
        int[] want = {0, 1, 1, 2, 2, 2};
        for (int minute = 0; minute < want.length; minute++) {
            due("marked(" + minute + ")", x.marked(minute), want[minute]);
        }
        due("marked(23)", x.marked(23), 2);
        due("lines that are not there take no minute", day("l1", "a9", times(11, "05") + ";00").marked(1), 1);
        ProofDay last = day("l1;t9", "a9", times(11, "00") + ";01");
        last.limit(24);
        withEvents(last, 8, COFFEE, 0, 22);
        due("marked(22)", last.marked(22), 1);
        due("marked(23), the last minute of all", last.marked(23), 2);
        due("no lines", new ProofDay().marked(23), 0);
    }

    @Says("WORST: the LINE that is not CORRECTED, and most GRAVE, of like ones the least; NONE.")
    private static void x05Worst() {
        due("of like ones", day("l3;d7;t7;l7", "", "").worst(), 1);
        due("the graver one behind", day("l3;d7;t8;l7", "", "").worst(), 2);
        due("the gravest is corrected", day("l3;d7;l9", "q9", "02").worst(), 1);
        due("the last of ten", day(times(9, "l1") + ";l2", "", "").worst(), 9);
        due("the first", day(times(10, "l1"), "", "").worst(), 0);
        due("all are corrected", day("l3", "q9", "00").worst(), NONE);
        due("no lines", new ProofDay().worst(), NONE);
    }

    @Says("UNREAD: LINES that no SHIFT that is done reads, as bits.")
    private static void x06Unread() {
        due("all ten", day(times(10, "l1"), "q9", "").left(0), 1023);
        due("but the first and the last", day(times(10, "l1"), "q9", "00;09").left(0), 510);
        due("read, not corrected", day("t1;t1", "q1", "01").left(0), 1);
        ProofDay x = day("l1;l1", "q9", "01;00");
        x.limit(1);
        due("not done", x.left(0), 1);
        due("no lines", new ProofDay().left(0), 0);
    }

    @Says("PASSED: LINES that were so read, and are not CORRECTED, as bits.")
    private static void x07Passed() {
        due("the first and the last", day(times(10, "t9"), "q1;q9", "00;09;11").left(1), 513);
        due("corrected by another", day("t9", "q1;q9", "00;10").left(1), 0);
        due("unread", day("t9", "q1", "").left(1), 0);
        ProofDay x = day("t1;t1", "q1", "01;00");
        x.limit(1);
        due("not done", x.left(1), 2);
        due("no lines", new ProofDay().left(1), 0);
    }

    // ---- plans

    @Says("MORE: the SHIFT more, behind all others (whatever room), by which there is least HARM, of like ones the "
        + "least READER, then the least LINE")
    private static void y01More() {
        triple("least harm", moreOf(day("l1;l9;l9", "q9;q9", "")), 0, 1, 10);
        triple("the last reader and line",
            moreOf(day(times(9, "l1") + ";t9", "q1;q1;q1;q1;q1;q5", "")), 5, 9, 9);
        triple("the least reader, then the least line", moreOf(day("t1;l5;l5", "q1;q9", "")), 0, 1, 6);
        triple("the reader goes ahead of the line", moreOf(day("t5;l5", "q1;q9", "")), 0, 1, 5);
        // Sixteen are told; the seventeenth comes behind them, when one is tired.
        ProofDay x = day("l1;d9", "q9;q5", times(8, "00") + ";" + times(8, "10"));
        triple("too tired, both", moreOf(x), 0, 0, 9);
        withEvents(x, 2, COFFEE, 1, 8);
        triple("the seventeenth", moreOf(x), 1, 1, 0);
        due("as before", x.count(2), 16);
        due("as before", x.harm(), 9);
        ProofDay full = day("l1;l9", "q9", "00");
        full.limit(1);
        triple("past the limit it isn't done", moreOf(full), 0, 0, 9);
    }

    @Says("how much; NONE: there are no READERS, or no LINES.")
    private static void y02MoreNone() {
        triple("no readers", moreOf(day("l1", "", "00;00")), NONE, NONE, NONE);
        triple("no lines", moreOf(day("", "q1", "00;00")), NONE, NONE, NONE);
        triple("neither", moreOf(new ProofDay()), NONE, NONE, NONE);
        triple("one of each", moreOf(day("l1", "q1", "")), 0, 0, 0);
    }

    @Says("LATE: the least LIMIT (1 to 24) by which there is no HARM; NONE.")
    private static void y03Late() {
        due("no lines", new ProofDay().late(), 1);
        due("one quiet", day("l1", "q1", "00").late(), 1);
        due("one aloud", day("l1", "a1", "00").late(), 2);
        due("whoever is last", day("l1;l1;l1", "q9;a9", "00;11;12").late(), 4);
        due("read, never corrected", day("t1", "q1", "00").late(), NONE);
        due("unread", day("l1", "q1", "").late(), NONE);
        ProofDay x = withEvents(day("l1;t9", "a9", times(11, "00") + ";01"), 8, COFFEE, 0, 22);
        due("the last minute of all", x.late(), 24);
        due("whatever the limit is", x.limit(1), 12);
        due("the last minute of all", x.late(), 24);
        x.wipe(2);
        typed(x, 2, times(12, "00") + ";01");
        due("later still", x.late(), NONE);
    }

    @Says("TURN: the two SHIFTS (the first less) that had better have each other's places, so that there is least "
        + "HARM, of like ones the least row")
    private static void y04Turn() {
        triple("of like ones", turnOf(day("l1", "q9", "00;00;00")), 0, 1, 0);
        triple("the first and the last", turnOf(day("d4;l1;t9", "q5", "00;01;02")), 0, 2, 0);
        // The last of sixteen is past the limit; only in minute 14, behind four coffees, does one find it, and
        // elsewhere a line that nobody else reads would be left.
        ProofDay x = withEvents(day(times(9, "l1") + ";t9", "q9", "00;01;02;03;04;05;06;07;" + times(7, "08") + ";09"),
            4, COFFEE, 0, 14);
        x.limit(15);
        due("as it is", x.harm(), 9);
        triple("the last two of sixteen", turnOf(x), 14, 15, 0);
        due("as it was", x.shift(15, 1), 9);
        // A shift of a line that is not there is one of them, too, but takes no minute, wherever it stands.
        triple("worse than now", turnOf(day("t4;l1", "q5", "00;01")), 0, 1, 4);
        triple("harmless", turnOf(day("t4;l1", "q5", "05;00;01")), 0, 1, 0);
        // Who reads goes along with what is read: neither one reads both, nor does one read the other's line.
        ProofDay two = day("l9;l9", "q9;q9", "00;11");
        two.limit(1);
        triple("of two readers", turnOf(two), 0, 1, 0);
        triple("each keeps to the line", turnOf(day("l9;t9", "q1;q5", "01;10")), 0, 1, 9);
        triple("both of a shift", turnOf(day("t9;l1", "q5;q1", "01;00;11")), 0, 1, 0);
    }

    @Says("how much; NONE: there are less than two.")
    private static void y05TurnNone() {
        triple("none", turnOf(day("l1", "q1", "")), NONE, NONE, NONE);
        triple("one", turnOf(day("l1", "q1", "00")), NONE, NONE, NONE);
        triple("two", turnOf(day("l1", "q1", "00;00")), 0, 1, 0);
        triple("two of nobody's", turnOf(day("l1", "", "00;00")), 0, 1, 1);
    }

    @Says("HUSH: the fewest EVENTS (0 to 2) that had better not be, so that no LINE is PASSED, of like ones the least "
        + "row (each more than the one ahead): how many; the i-th; NONE.")
    private static void y06Hush() {
        triple("none is passed", hushOf(day("l1", "q9", "00")), 0, NONE, NONE);
        triple("unread is not passed", hushOf(day("l1", "q9", "")), 0, NONE, NONE);
        triple("passed for another cause", hushOf(day("t1", "q1", "00")), NONE, NONE, NONE);
        ProofDay one = withEvents(day("l1", "q9", "00"), 7, COUGH, 1, 0);
        one.event(COUGH, 0, 0);
        triple("the eighth", hushOf(one), 1, 7, NONE);
        ProofDay two = withEvents(day("l1", "q9", "00"), 6, COUGH, 1, 0);
        withEvents(two, 2, COUGH, 0, 0);
        triple("the last two of eight", hushOf(two), 2, 6, 7);
        triple("three are too many", hushOf(withEvents(day("l1", "q9", "00"), 3, COUGH, 0, 0)), NONE, NONE, NONE);
    }

    @Says("of like ones the least row (each more than the one ahead)")
    private static void y07HushLeastRow() {
        // Reader 0 coughs as 1 and 2, reader 1 as 0 and 3; either may be helped.
        ProofDay x = day("l1", "q9;q9", "00;10");
        x.event(COUGH, 1, 0);
        withEvents(x, 2, COUGH, 0, 0);
        x.event(COUGH, 1, 0);
        triple("0 and 3 ahead of 1 and 2", hushOf(x), 2, 0, 3);
        // Fewer go ahead of a lesser row.
        ProofDay y = withEvents(day("l1", "q9;q9", "00;10"), 2, COUGH, 0, 0);
        y.event(COUGH, 1, 0);
        triple("2 alone ahead of 0 and 1", hushOf(y), 1, 2, NONE);
        y.back();
        y.event(COUGH, 4, 0);
        triple("none, as reader 1 finds it", hushOf(y), 0, NONE, NONE);
        ProofDay z = day("l1", "q9;q9", "00;10");
        z.event(COUGH, 1, 0);
        z.event(COUGH, 0, 0);
        triple("the lesser of two", hushOf(z), 1, 0, NONE);
    }

    // ---- seen, chance, days

    @Says("SEEN, 8 at most")
    private static void z01SeenMost() {
        ProofDay x = day("l1", "q9", "00");
        for (int i = 1; i <= 7; i++) {
            due("seen", x.seen(0, 0, 1), i);
        }
        due("keens", x.keens(0), 1022);
        due("the eighth", x.seen(0, 0, 0), 8);
        due("the eighth tells", x.keens(0), 0);
        due("a ninth", x.seen(0, 0, 1), FULL);
        due("forget", x.forget(), 8);
        due("room again", x.seen(0, 0, 1), 1);
    }

    @Says("behind a MINUTE a LINE (0 to 9; of one that there is not neither ever comes out so) was CORRECTED (1), or "
        + "not (0).")
    private static void z02SeenOf() {
        ProofDay x = withEvents(day("l1", "a9", "00"), 1, COUGH, 1, 0);
        int[] corrected = {0, 1022, 1022};
        for (int minute = 0; minute < corrected.length; minute++) {
            x.seen(minute, 0, 1);
            due("corrected behind " + minute, x.keens(0), corrected[minute]);
            x.forget();
            x.seen(minute, 0, 0);
            due("not behind " + minute, x.keens(0), 1022 - corrected[minute]);
            x.forget();
        }
        for (int is = 0; is < 2; is++) {
            for (int line = 1; line <= 9; line += 8) {
                x.seen(23, line, is);
                due("keens, line " + line, x.keens(0), 0);
                due("kind, line " + line, x.kind(0), 0);
                due("never, line " + line, x.never(), 0);
                due("ask, line " + line, x.ask(0), 0);
                x.forget();
            }
        }
        due("line 10", x.seen(0, 10, 0), BAD);
        due("line -1", x.seen(0, -1, 0), BAD);
    }

    @Says("NEVER: EVENTS each of which, had it alone not been, makes all that was SEEN come out so, as bits.")
    private static void z03Never() {
        ProofDay x = day("l1;l1", "q9", "00;01");
        x.event(COUGH, 0, 0);
        withEvents(x, 6, COUGH, 5, 0);
        x.event(COUGH, 0, 1);
        due("nothing seen: all eight", x.never(), 255);
        x.seen(23, 0, 1);
        due("the first", x.never(), 1);
        x.forget();
        x.seen(23, 1, 1);
        due("the eighth", x.never(), 128);
        x.seen(23, 0, 1);
        due("not one alone", x.never(), 0);
        x.forget();
        x.seen(23, 0, 0);
        x.seen(23, 1, 0);
        due("those that are nothing to it", x.never(), 126);
        due("no events", day("l1", "q9", "00").never(), 0);
    }

    @Says("KEENS of a READER: 1 to 9, in place of its own, likewise, as bits (bit 1 on).")
    private static void z04Keens() {
        ProofDay x = day("t1;l1", "q5;q5", "00;01");
        due("nothing seen", x.keens(0), 1022);
        due("one who reads nothing", x.keens(1), 1022);
        x.seen(0, 0, 1);
        due("5 to 9", x.keens(0), 992);
        x.forget();
        x.seen(0, 0, 0);
        due("1 to 4", x.keens(0), 30);
        x.seen(1, 1, 0);
        due("1 alone", x.keens(0), 2);
        due("none: the other one changes nothing", x.keens(1), 0);
        ProofDay y = day("l1;t1", "q5", times(5, "00") + ";01");
        y.seen(5, 1, 1);
        due("none: 9 less 5 is less than 5", y.keens(0), 0);
        ProofDay z = day("l1;t1", "q5", times(4, "00") + ";01");
        z.seen(4, 1, 1);
        due("9 alone", z.keens(0), 512);
        due("its own stays", z.reader(0, 1), 5);
    }

    @Says("KIND of a LINE: 0 l, 1 d, 2 t, in place of its own, likewise, as bits.")
    private static void z05Kind() {
        int[] corrected = {1, 1, 3, 3, 7};
        for (int keen = 1; keen <= 5; keen++) {
            ProofDay x = day("t9", "q" + keen, "00");
            due("nothing seen", x.kind(0), 7);
            x.seen(0, 0, 1);
            due("corrected by keen " + keen, x.kind(0), corrected[keen - 1]);
            x.forget();
            x.seen(0, 0, 0);
            due("not by keen " + keen, x.kind(0), 7 - corrected[keen - 1]);
            due("its own stays", x.line(0, 0), 2);
        }
        ProofDay ten = day(times(10, "l1"), "q3", "09");
        ten.seen(0, 9, 1);
        due("the tenth", ten.kind(9), 3);
        due("the first is nothing to it", ten.kind(0), 7);
    }

    @Says("ASK of a READER: the MINUTE behind which the greatest number of those of KEENS by which the like LINES are "
        + "CORRECTED is least, of like ones the least.")
    private static void z06Ask() {
        // Only in minute 23 does anything hang on reader 0: 1 and 2 are less keen than is wanted.
        ProofDay x = withEvents(day("l1;t9", "a5;q9", "10;" + times(11, "00") + ";01"), 8, COFFEE, 0, 22);
        x.limit(24);
        due("the last minute of all", x.ask(0), 23);
        due("one on whom nothing hangs", x.ask(1), 0);
        x.limit(23);
        due("of like ones the least", x.ask(0), 0);
        // Behind 0: 1 to 4, 5 to 9; behind 1: 1 to 4, 5, 6 to 9.
        due("4 is less than 5", day("t4;t9", "q5", "00;01").ask(0), 1);
        // Behind 0: all; behind 1: 1 to 5, 6 to 9; behind 2: 1 to 4, 5, 6 to 9.
        due("4 is less than 5, of the least ones", day("l1;t1;d1", "q5", "00;01;02").ask(0), 2);
        due("8 is less than 9", day("l1;l1", "q5", "00;01").ask(0), 1);
        // As many lines are not like lines: 1 and 2 {1}, 3 to 9 {0}, then both.
        due("like lines", day("d1;l1", "q5", "00;01").ask(0), 0);
        ProofDay none = day("l1", "q9", "00");
        none.seen(0, 0, 1);
        none.seen(0, 0, 0);
        due("none of keens", none.ask(0), 0);
        ProofDay one = day("t1;l1", "q5", "00;01");
        one.seen(0, 0, 0);
        one.seen(1, 1, 0);
        due("one of keens", one.ask(0), 0);
    }

    @Says("ASK of a READER: the MINUTE behind which the greatest number of those of KEENS")
    private static void z07AskOfThoseLeft() {
        // Left are 1 to 4: behind 0 all alike, behind 1 {1,2,3} {4}, behind 2 {1,2} {3} {4}.
        ProofDay x = day("t4;d9;l5", "q5", "00;01;02");
        due("of all nine: 5 to 9 stay alike", x.ask(0), 0);
        x.seen(0, 0, 0);
        due("of 1 to 4", x.ask(0), 2);
    }

    @Says("CHANCE: each of EVENTS is by c sixteenths (0 to 16), by itself: the chance that a LINE is CORRECTED: "
        + "a FRACTION.")
    private static void z08Chance() {
        ProofDay x = day("l9", "q9;q9", "00;10");
        x.event(COUGH, 0, 0);
        x.event(COUGH, 1, 0);
        fraction(x, 0, 1, 1);
        fraction(x, 1, 255, 256);
        fraction(x, 15, 31, 256);
        fraction(x, 16, 0, 1);
        due("c 17", x.chance(17, 0, 0), Long.MIN_VALUE + 2);
        due("c -1", x.chance(-1, 0, 0), Long.MIN_VALUE + 2);
        ProofDay coffee = withEvents(day("d9;l1", "q3", "01;00"), 8, COFFEE, 0, 1);
        // Not one of eight coffees: (15/16)^8.
        fraction(coffee, 1, 4294967296L - 2562890625L, 4294967296L);
        fraction(coffee, 0, 0, 1);
        fraction(coffee, 16, 1, 1);
        ProofDay both = withEvents(day("d9;l1", "q3", "01;00"), 1, COFFEE, 0, 1);
        both.event(COUGH, 0, 1);
        fraction(both, 5, 55, 256);
    }

    @Says("DAYS by a SEED: n SHIFTS (0 to 16), in place of those told (none where there are no READERS, or no LINES)")
    private static void z09Days() {
        String ten = times(10, "l1");
        ProofDay x = day(ten, "q9;q9;q9;q9;q9;q9", "00;01");
        due("none drawn", x.days(1, 0, 0), 10);
        due("none drawn", x.days(1, 0, 1), 10);
        due("sixteen drawn", x.days(1, 16, 1), 3);
        // Drawn by 3 are 7 0 6 3 5 4 3 8 2 8 0 8 6 7 6 1: line 1 is the sixteenth alone.
        due("fifteen drawn", x.days(3, 15, 1), 2);
        due("sixteen drawn", x.days(3, 16, 1), 1);
        due("seventeen", x.days(1, 17, 0), BAD);
        due("fewer than none", x.days(1, -1, 0), BAD);
        due("those told stay", x.count(2), 2);
        due("no readers", day(ten, "", "").days(1, 16, 0), 10);
        due("no readers", day(ten, "", "").days(1, 16, 1), 10);
        due("no lines", day("", "q9", "").days(1, 16, 0), 0);
        due("no lines", day("", "q9", "").days(1, 16, 1), 0);
        due("neither", new ProofDay().days(1, 16, 0), 0);
        // One reader alone: past the limit they are not done.
        ProofDay y = day("l5", "a9", "");
        y.limit(1);
        due("past the limit", y.days(1, 16, 0), 5);
        due("past the limit", y.days(1, 16, 1), 1);
    }

    // ---- the order of refusals

    @Says("Refusals, the first that fits, in the order told at each act: BAD -2 (a number not as told, no such thing), "
        + "NULL, NOT -3 (as told), FULL -4, other FINDINGS.")
    private static void zzRefusals() {
        ProofDay x = new ProofDay();
        typed(x, 0, fullText(0));
        withEvents(x, 8, COUGH, 0, 0);
        for (int i = 0; i < 8; i++) {
            x.seen(0, 0, 0);
        }
        x.sheet(1, 1, 2);
        x.sheet(2, 2, 2);
        due("type: BAD ahead of FULL", x.type(0, 256), BAD);
        due("event: BAD ahead of FULL", x.event(0, 0, 24), BAD);
        due("seen: BAD ahead of FULL", x.seen(0, 10, 0), BAD);
        due("shift: BAD ahead of NONE", x.shift(0, 2), BAD);
        due("sheet: BAD ahead of SIZE", x.sheet(0, 3, -1), BAD);
        due("sheet: BAD ahead of SIZE", x.sheet(4, 0, -1), BAD);
        due("lay: BAD ahead of NULL", x.lay(0, 3, 0, 0), BAD);
        due("lay: NULL ahead of CAST, INDEX", x.lay(0, 0, -1, 0), NULL);
        due("lay: CAST ahead of INDEX", x.lay(1, 0, 2, 0), CAST);
        due("copy: BAD ahead of NULL", x.copy(0, 0, 4, 0, 0), BAD);
        due("copy: NULL ahead of STORE, INDEX", x.copy(1, -1, 0, 0, 0), NULL);
        due("copy: STORE ahead of INDEX", x.copy(1, -1, 2, 0, 0), STORE);
        due("count 8, as the last finding left it", x.count(8), 4);
        due("get: BAD ahead of NULL", x.get(0, 3, 0), LEAST);
        due("get: it is no finding", x.count(8), 4);
        due("get: NULL ahead of CAST, INDEX", x.get(0, 0, -1), LEAST);
        due("get: which", x.count(8), 1);
        due("get: CAST ahead of INDEX", x.get(1, 0, 2), LEAST);
        due("get: which", x.count(8), 3);
    }

    @Says("Where the answer is a long, a refusal -x is the least long and x more.")
    private static void zzLongRefusal() {
        ProofDay x = day("l1", "q9", "00");
        long bad = -9223372036854775806L;
        due("chance: c", x.chance(17, 0, 0), bad);
        due("chance: line", x.chance(0, 1, 0), bad);
        due("chance: what", x.chance(0, 0, 2), bad);
    }

    // ---- the promises

    @Says(promise = 1, value = "No LINES, no READERS, no SHIFTS; all SHEETS are LOST.")
    private static void p01New() {
        ProofDay x = new ProofDay();
        for (int what = 0; what <= 8; what++) {
            due("count(" + what + ")", x.count(what), 0);
        }
        due("line", x.line(0, 0), BAD);
        due("reader", x.reader(0, 0), BAD);
        for (int i = 0; i < 16; i++) {
            due("shift(" + i + ")", x.shift(i, 0), NONE);
        }
        for (int s = 0; s < 4; s++) {
            due("write(" + s + ")", x.write(s), NULL);
            due("get(" + s + ")", x.get(s, 0, 0), LEAST);
        }
        due("two objects have nothing in common", day("l1", "", "").count(0) * 10 + new ProofDay().count(0), 10);
    }

    @Says(promise = 2, value = "A byte (0 to 255) comes behind a text: how many. BAD; FULL.")
    private static void p02Type() {
        for (int text = 0; text < 3; text++) {
            ProofDay x = new ProofDay();
            due("byte 0", x.type(text, 0), 1);
            due("byte 255", x.type(text, 255), 2);
            due("byte 256", x.type(text, 256), BAD);
            due("byte -1", x.type(text, -1), BAD);
            due("how many", x.count(3 + text), 2);
            for (int i = 3; i <= ROOM[text]; i++) {
                due("type", x.type(text, i), i);
            }
            due("full", x.type(text, 0), FULL);
            due("the others are empty", x.count(3) + x.count(4) + x.count(5), ROOM[text]);
        }
        ProofDay x = new ProofDay();
        due("text 3", x.type(3, 65), BAD);
        due("text -1", x.type(-1, 65), BAD);
        due("a byte that wraps to l", x.type(0, 256 + 'l'), BAD);
    }

    @Says(promise = 3, value = "A text is empty: how many bytes it had. BAD.")
    private static void p03Wipe() {
        for (int text = 0; text < 3; text++) {
            ProofDay x = new ProofDay();
            due("an empty one", x.wipe(text), 0);
            typed(x, text, fullText(text));
            due("a full one", x.wipe(text), ROOM[text]);
            due("no things", x.count(text), 0);
            due("no bytes", x.count(3 + text), 0);
            due("room", x.type(text, HEADS[text].charAt(0)), 1);
            due("what was is gone", x.fault(text), 1);
        }
        ProofDay x = new ProofDay();
        due("text 3", x.wipe(3), BAD);
        due("text -1", x.wipe(-1), BAD);
    }

    @Says(promise = 4, value = "The last byte of a text is undone: how many are left. BAD; NOT: it is empty.")
    private static void p04Undo() {
        for (int text = 0; text < 3; text++) {
            ProofDay x = new ProofDay();
            due("empty", x.undo(text), NOT);
            typed(x, text, fullText(text));
            for (int left = ROOM[text] - 1; left >= 0; left--) {
                due("undo", x.undo(text), left);
                due("things", x.count(text), left % 3 == 2 ? (left + 1) / 3 : 0);
            }
            due("empty again", x.undo(text), NOT);
            due("bytes", x.count(3 + text), 0);
        }
        ProofDay x = day("l1", "q1", "00");
        due("text 3", x.undo(3), BAD);
        due("text -1", x.undo(-1), BAD);
    }

    @Says(promise = 5, value = "The FAULT of a text; NONE. BAD.")
    private static void p05Fault() {
        ProofDay x = day("l1;", "q1", "6");
        due("text 0", x.fault(0), 3);
        due("text 1", x.fault(1), NONE);
        due("text 2", x.fault(2), 0);
        due("text 3", x.fault(3), BAD);
        due("text -1", x.fault(-1), BAD);
    }

    @Says(promise = 6, value = "Its sort (what = 0: 0 l, 1 d, 2 t), how GRAVE (1), how HARD (2) of a LINE. BAD.")
    private static void p06Line() {
        ProofDay x = day("t9;l1", "", "");
        due("sort", x.line(0, 0), 2);
        due("hard", x.line(1, 2), 1);
        due("what 3", x.line(0, 3), BAD);
        due("what -1", x.line(0, -1), BAD);
        due("line 2", x.line(2, 0), BAD);
        due("line -1", x.line(-1, 0), BAD);
        due("no lines", new ProofDay().line(0, 0), BAD);
    }

    @Says(promise = 7, value = "The sort (what = 0: 0 a, 1 q, 2 o), how KEEN (1) of a READER. BAD.")
    private static void p07Reader() {
        ProofDay x = day("", "o9;a1", "");
        due("sort", x.reader(0, 0), 2);
        due("keen", x.reader(1, 1), 1);
        due("what 2", x.reader(0, 2), BAD);
        due("what -1", x.reader(0, -1), BAD);
        due("reader 2", x.reader(2, 0), BAD);
        due("reader -1", x.reader(-1, 0), BAD);
        due("no readers", new ProofDay().reader(0, 0), BAD);
    }

    @Says(promise = 8, value = "The READER (what = 0), the LINE (1) of the i-th SHIFT (0 to 15); NONE: there is "
        + "none. BAD.")
    private static void p08Shift() {
        ProofDay x = day("", "", "37");
        due("reader", x.shift(0, 0), 3);
        due("line", x.shift(0, 1), 7);
        due("none", x.shift(1, 0), NONE);
        due("none", x.shift(15, 1), NONE);
        due("shift 16", x.shift(16, 0), BAD);
        due("shift -1", x.shift(-1, 0), BAD);
        due("what 2", x.shift(0, 2), BAD);
        due("what -1", x.shift(15, -1), BAD);
        x.undo(2);
        due("with a fault", x.shift(0, 0), NONE);
    }

    @Says(promise = 9, value = "LIMIT: what it was. BAD.")
    private static void p09Limit() {
        ProofDay x = new ProofDay();
        for (int v = 1; v <= 24; v++) {
            due("limit(" + v + ")", x.limit(v), v == 1 ? 12 : v - 1);
        }
        due("limit(0)", x.limit(0), BAD);
        due("limit(25)", x.limit(25), BAD);
        due("limit of the least", x.limit(LEAST), BAD);
        due("limit of the greatest", x.limit(GREATEST), BAD);
        due("as it was", x.limit(1), 24);
    }

    @Says(promise = 10, value = "An EVENT more: how many. BAD; FULL.")
    private static void p10Event() {
        ProofDay x = new ProofDay();
        due("the least", x.event(0, 0, 0), 1);
        due("the greatest", x.event(1, 5, 23), 2);
        int[][] bad = {{-1, 0, 0}, {2, 0, 0}, {0, -1, 0}, {0, 6, 0}, {0, 0, -1}, {0, 0, 24}, {LEAST, 0, 0},
            {0, GREATEST, 0}, {0, 0, LEAST}};
        for (int[] b : bad) {
            due("event" + Arrays.toString(b), x.event(b[0], b[1], b[2]), BAD);
        }
        due("how many", x.count(6), 2);
        withEvents(x, 6, 0, 0, 0);
        due("full", x.event(0, 0, 0), FULL);
        due("how many", x.count(6), 8);
    }

    @Says(promise = 11, value = "The last EVENT is undone: how many are left. NOT: there is none.")
    private static void p11Back() {
        ProofDay x = day("l1", "q9", "00");
        due("none", x.back(), NOT);
        x.event(COUGH, 0, 0);
        withEvents(x, 7, COUGH, 1, 0);
        for (int left = 7; left >= 1; left--) {
            due("back", x.back(), left);
            due("the first one is there yet", x.harm(), 1);
        }
        due("back", x.back(), 0);
        due("it was the last", x.harm(), 0);
        due("none again", x.back(), NOT);
    }

    @Says(promise = 12, value = "its items, three for each, as many as are whole")
    private static void p12ReadWhole() {
        for (int length = 0; length <= 9; length++) {
            ProofDay x = withSheet(0, new int[length]);
            due("read of " + length, x.read(0), length / 3);
            due("events", x.count(6), length / 3);
        }
    }

    @Says(promise = 12, value = "as long as each may be and there is room: how many came.")
    private static void p12ReadAsLong() {
        int[][] bad = {{-1, 0, 0}, {2, 0, 0}, {0, -1, 0}, {0, 6, 0}, {0, 0, -1}, {0, 0, 24}};
        for (int[] b : bad) {
            for (int form = 0; form < 3; form++) {
                ProofDay x = withSheet(form, 1, 5, 23, b[0], b[1], b[2], 0, 0, 0);
                due("up to " + Arrays.toString(b), x.read(0), 1);
                due("events", x.count(6), 1);
            }
        }
        for (int there = 0; there <= 8; there++) {
            ProofDay x = withEvents(withSheet(2, new int[60]), there, COUGH, 5, 0);
            due("room for " + (8 - there), x.read(0), 8 - there);
            due("events", x.count(6), 8);
            due("no finding", x.count(8), 0);
        }
        ProofDay x = withSheet(2, 0, 0, 0, 256, 0, 0);
        due("an int that would wrap", x.read(0), 1);
        typed(x, 0, "l9");
        typed(x, 1, "q9");
        typed(x, 2, "00");
        due("they are told in their order", x.harm(), 9);
        due("the sheet stays", x.lose(0), 6);
        ProofDay y = day("l9", "q9", "00");
        y.sheet(0, 0, 3);
        due("one cough", y.read(0), 1);
        due("it tells at once", y.harm(), 9);
    }

    @Says(promise = 12, value = "BAD; NULL.")
    private static void p12ReadRefused() {
        ProofDay x = withSheet(0, 0, 0, 0);
        due("sheet 4", x.read(4), BAD);
        due("sheet -1", x.read(-1), BAD);
        due("no finding", x.count(8), 0);
        due("lost", x.read(3), NULL);
        due("the finding", x.count(8), 1);
        x.lose(0);
        due("lost again", x.read(0), NULL);
        due("no events", x.count(6), 0);
    }

    @Says(promise = 13, value = "By whom (what = 0; NONE), in which MINUTE (1; NONE), how many SHIFTS (2) of a "
        + "LINE. BAD.")
    private static void p13Margin() {
        ProofDay x = day("l1;l1", "q9", "01");
        triple("unread", new int[] {x.margin(0, 0), x.margin(0, 1), x.margin(0, 2)}, NONE, NONE, 0);
        triple("corrected", new int[] {x.margin(1, 0), x.margin(1, 1), x.margin(1, 2)}, 0, 0, 1);
        due("line 2", x.margin(2, 0), BAD);
        due("line -1", x.margin(-1, 0), BAD);
        due("what 3", x.margin(0, 3), BAD);
        due("what -1", x.margin(0, -1), BAD);
        due("no lines", new ProofDay().margin(0, 0), BAD);
        due("ten lines, the last", day(times(10, "l1"), "q9", "09").margin(9, 1), 0);
    }

    @Says(promise = 14, value = "SHIFTS done (what = 0), how TIRED (1), the MINUTE (2; NONE), how many FIND (3) of a "
        + "READER. BAD.")
    private static void p14Night() {
        ProofDay x = day("l1", "q9;a9", "10");
        due("none done", x.night(0, 0), 0);
        due("not tired", x.night(0, 1), 0);
        due("no minute", x.night(0, 2), NONE);
        due("none finds", x.night(0, 3), 0);
        due("one done", x.night(1, 0), 1);
        due("its last minute", x.night(1, 2), 1);
        due("reader 2", x.night(2, 0), BAD);
        due("reader -1", x.night(-1, 0), BAD);
        due("what 4", x.night(0, 4), BAD);
        due("what -1", x.night(0, -1), BAD);
        due("no readers", new ProofDay().night(0, 0), BAD);
        due("six readers, the last", day("l1", "q9;q9;q9;q9;q9;q9", "50").night(5, 3), 1);
    }

    @Says(promise = 15, value = "The MINUTE (what = 0; NONE), whether it FINDS (1: 1, 0) of the i-th SHIFT (that "
        + "there is). BAD.")
    private static void p15Done() {
        ProofDay x = day("l1", "q9", "00;01");
        begins(x, 0, NONE);
        finds(x, 1, 0);
        due("shift 2", x.done(2, 0), BAD);
        due("shift 15", x.done(15, 0), BAD);
        due("shift -1", x.done(-1, 0), BAD);
        due("what 2", x.done(0, 2), BAD);
        due("what -1", x.done(0, -1), BAD);
        due("no shifts", new ProofDay().done(0, 0), BAD);
        ProofDay y = day("l1", "q9;q9", times(15, "00") + ";10");
        due("the sixteenth", y.done(15, 1), 1);
        due("a seventeenth", y.done(16, 1), BAD);
    }

    @Says(promise = 16, value = "MARKED. BAD.")
    private static void p16Marked() {
        ProofDay x = day("l1", "q9", "00");
        due("marked 0", x.marked(0), 1);
        due("marked 23", x.marked(23), 1);
        due("marked 24", x.marked(24), BAD);
        due("marked -1", x.marked(-1), BAD);
    }

    @Says(promise = 17, value = "HARM.")
    private static void p17Harm() {
        ProofDay x = new ProofDay();
        due("new", x.harm(), 0);
        typed(x, 0, "t9");
        due("one line", x.harm(), 9);
        x.type(0, ';');
        due("a fault", x.harm(), 0);
    }

    @Says(promise = 18, value = "WORST; NONE.")
    private static void p18Worst() {
        ProofDay x = new ProofDay();
        due("new", x.worst(), NONE);
        typed(x, 0, "t9");
        due("one line", x.worst(), 0);
        x.type(0, ';');
        due("a fault", x.worst(), NONE);
    }

    @Says(promise = 19, value = "UNREAD (what = 0), PASSED (1), as bits. BAD.")
    private static void p19Left() {
        ProofDay x = day("t1;t1", "q1", "01");
        due("unread", x.left(0), 1);
        due("passed", x.left(1), 2);
        due("what 2", x.left(2), BAD);
        due("what -1", x.left(-1), BAD);
    }

    @Says(promise = 20, value = "how much (2; also if it is no less than now); NONE. BAD.")
    private static void p20More() {
        ProofDay x = day("t4;t5", "q1;q1", "");
        triple("no less than now", moreOf(x), 0, 0, 9);
        triple("all is corrected", moreOf(day("l4", "q1", "00")), 0, 0, 0);
        due("what 3", x.more(3), BAD);
        due("what -1", x.more(-1), BAD);
        due("BAD ahead of NONE", new ProofDay().more(3), BAD);
    }

    @Says(promise = 21, value = "LATE; NONE.")
    private static void p21Late() {
        due("new", new ProofDay().late(), 1);
        due("never", day("l1", "", "").late(), NONE);
        ProofDay x = day("l1", "q9", "00");
        x.limit(24);
        due("the limit is nothing to it", x.late(), 1);
        due("the limit stays", x.limit(24), 24);
    }

    @Says(promise = 22, value = "how much (2; also if it is no less than now); NONE. BAD.")
    private static void p22Turn() {
        ProofDay x = day("t4", "q1", "00;00;00");
        triple("no less than now", turnOf(x), 0, 1, 4);
        triple("more than now", turnOf(day("t4;l1", "q5", "00;01")), 0, 1, 4);
        due("what 3", x.turn(3), BAD);
        due("what -1", x.turn(-1), BAD);
        due("BAD ahead of NONE", new ProofDay().turn(3), BAD);
    }

    @Says(promise = 23, value = "how many (i = NONE), the i-th (0, 1; NONE); NONE. BAD.")
    private static void p23Hush() {
        ProofDay x = withEvents(day("l4", "q9", "00"), 2, COUGH, 0, 0);
        triple("two", hushOf(x), 2, 0, 1);
        x.back();
        triple("one", hushOf(x), 1, 0, NONE);
        x.back();
        triple("none", hushOf(x), 0, NONE, NONE);
        triple("in vain", hushOf(withEvents(x, 3, COUGH, 0, 0)), NONE, NONE, NONE);
        due("i 2", x.hush(2), BAD);
        due("i -2", x.hush(-2), BAD);
        due("i the least", x.hush(LEAST), BAD);
        due("i the greatest", x.hush(GREATEST), BAD);
    }

    @Says(promise = 24, value = "SEEN more: how many. BAD; FULL.")
    private static void p24Seen() {
        ProofDay x = new ProofDay();
        due("the least", x.seen(0, 0, 0), 1);
        due("the greatest, of a line that is not", x.seen(23, 9, 1), 2);
        int[][] bad = {{-1, 0, 0}, {24, 0, 0}, {0, -1, 0}, {0, 10, 0}, {0, 0, -1}, {0, 0, 2}, {LEAST, 0, 0},
            {0, GREATEST, 0}, {0, 0, LEAST}};
        for (int[] b : bad) {
            due("seen" + Arrays.toString(b), x.seen(b[0], b[1], b[2]), BAD);
        }
        due("how many", x.count(7), 2);
        for (int i = 3; i <= 8; i++) {
            due("seen", x.seen(0, 0, 0), i);
        }
        due("full", x.seen(0, 0, 0), FULL);
        due("how many", x.count(7), 8);
    }

    @Says(promise = 25, value = "All SEEN are forgotten: how many.")
    private static void p25Forget() {
        ProofDay x = day("l1", "q9", "00");
        due("none", x.forget(), 0);
        for (int i = 0; i < 8; i++) {
            x.seen(0, 0, 0);
        }
        due("it can't be", x.keens(0), 0);
        due("all eight", x.forget(), 8);
        due("how many", x.count(7), 0);
        due("forgotten", x.keens(0), 1022);
        due("none again", x.forget(), 0);
    }

    @Says(promise = 26, value = "NEVER, as bits.")
    private static void p26Never() {
        due("no events", new ProofDay().never(), 0);
        due("eight, nothing seen", withEvents(new ProofDay(), 8, COUGH, 0, 0).never(), 255);
    }

    @Says(promise = 27, value = "KEENS, as bits. BAD.")
    private static void p27Keens() {
        ProofDay x = day("", "q1;q1", "");
        due("nothing hangs on it", x.keens(1), 1022);
        due("reader 2", x.keens(2), BAD);
        due("reader -1", x.keens(-1), BAD);
        due("no readers", new ProofDay().keens(0), BAD);
        due("six readers, the last", day("", "q1;q1;q1;q1;q1;q1", "").keens(5), 1022);
    }

    @Says(promise = 28, value = "KIND, as bits. BAD.")
    private static void p28Kind() {
        ProofDay x = day("l1;l1", "", "");
        due("nothing seen", x.kind(1), 7);
        due("line 2", x.kind(2), BAD);
        due("line -1", x.kind(-1), BAD);
        due("no lines", new ProofDay().kind(0), BAD);
        due("ten lines, the last", day(times(10, "l1"), "", "").kind(9), 7);
    }

    @Says(promise = 29, value = "ASK. BAD.")
    private static void p29Ask() {
        ProofDay x = day("", "q1;q1", "");
        due("no lines, nothing to tell by", x.ask(1), 0);
        due("reader 2", x.ask(2), BAD);
        due("reader -1", x.ask(-1), BAD);
        due("no readers", new ProofDay().ask(0), BAD);
    }

    @Says(promise = 30, value = "CHANCE: above, below. BAD. (As the least long and x more.)")
    private static void p30Chance() {
        ProofDay x = day("l1;t9", "q1", "00;01");
        due("above", x.chance(0, 0, 0), 1);
        due("below", x.chance(16, 1, 1), 1);
        long bad = Long.MIN_VALUE + 2;
        int[][] wrongOnes = {{-1, 0, 0}, {17, 0, 0}, {0, -1, 0}, {0, 2, 0}, {0, 9, 0}, {0, 0, -1}, {0, 0, 2},
            {LEAST, 0, 0}, {0, GREATEST, 0}, {0, 0, LEAST}};
        for (int[] w : wrongOnes) {
            due("chance" + Arrays.toString(w), x.chance(w[0], w[1], w[2]), bad);
        }
        due("no lines", new ProofDay().chance(5, 0, 0), bad);
    }

    @Says(promise = 31, value = "DAYS: HARM (what = 0), how many are UNREAD (1). BAD.")
    private static void p31Days() {
        ProofDay x = day("l5;t9", "q1", "");
        due("harm", x.days(0, 0, 0), 14);
        due("unread", x.days(0, 0, 1), 2);
        due("sixteen", x.days(0, 16, 1), 0);
        int[][] bad = {{0, -1, 0}, {0, 17, 0}, {0, 0, -1}, {0, 0, 2}, {0, LEAST, 0}, {0, GREATEST, 1}};
        for (int[] b : bad) {
            due("days" + Arrays.toString(b), x.days(b[0], b[1], b[2]), BAD);
        }
        due("BAD where there are none", new ProofDay().days(0, 17, 0), BAD);
    }

    @Says(promise = 32, value = "A SHEET is a new row of a FORM with n items: n.")
    private static void p32Sheet() {
        ProofDay x = withSheet(2, 7, 8, 9);
        due("anew", x.sheet(0, 2, 3), 3);
        items(x, 0, 2, 0, 0, 0);
        x.lay(0, 2, 2, 5);
        due("shorter", x.sheet(0, 1, 2), 2);
        items(x, 0, 1, 0, 0);
        due("no third item", x.get(0, 1, 2), LEAST);
        due("longer", x.sheet(0, 0, 60), 60);
        due("nothing of what was", x.get(0, 0, 2), 0);
        due("empty", x.sheet(0, 0, 0), 0);
        due("not LOST", x.lose(0), 0);
        due("LOST, then anew", x.sheet(0, 2, 1), 1);
        items(x, 0, 2, 0);
    }

    @Says(promise = 32, value = "BAD: SHEET, FORM, above 60; SIZE.")
    private static void p32SheetRefused() {
        ProofDay x = withSheet(2, 7);
        due("sheet 4", x.sheet(4, 0, 1), BAD);
        due("sheet -1", x.sheet(-1, 0, 1), BAD);
        due("form 3", x.sheet(0, 3, 1), BAD);
        due("form -1", x.sheet(0, -1, 1), BAD);
        due("61", x.sheet(0, 0, 61), BAD);
        due("the greatest", x.sheet(0, 0, GREATEST), BAD);
        due("no finding", x.count(8), 0);
        due("-1", x.sheet(0, 0, -1), SIZE);
        due("the finding", x.count(8), 5);
        due("the least", x.sheet(0, 0, LEAST), SIZE);
        items(x, 0, 2, 7);
        due("of a LOST one", x.sheet(3, 0, -1), SIZE);
        due("it is LOST yet", x.lose(3), NULL);
    }

    @Says(promise = 33, value = "It is LOST: how many items it had. BAD; NULL.")
    private static void p33Lose() {
        ProofDay x = new ProofDay();
        due("LOST at first", x.lose(0), NULL);
        x.sheet(0, 0, 60);
        due("sixty", x.lose(0), 60);
        due("LOST", x.lose(0), NULL);
        x.sheet(0, 0, 0);
        due("none", x.lose(0), 0);
        due("LOST", x.get(0, 0, 0), LEAST);
        due("NULL", x.count(8), 1);
        x.sheet(3, 2, 1);
        due("sheet 4", x.lose(4), BAD);
        due("sheet -1", x.lose(-1), BAD);
        due("sheet 3", x.lose(3), 1);
    }

    @Says(promise = 34, value = "becomes v (the lowest bits that it has, with its sign): 1.")
    private static void p34LayWraps() {
        int[] v = {127, 128, 255, 256, -128, -129, 32767, 32768, 65535, 65536, -32768, -32769, GREATEST, LEAST, -1};
        int[] bytes = {127, -128, -1, 0, -128, 127, -1, 0, -1, 0, 0, -1, -1, 0, -1};
        int[] shorts = {127, 128, 255, 256, -128, -129, 32767, -32768, -1, 0, -32768, 32767, -1, 0, -1};
        items(withSheet(0, v), 0, 0, bytes);
        items(withSheet(1, v), 0, 1, shorts);
        items(withSheet(2, v), 0, 2, v);
        ProofDay x = withSheet(0, 1, 2, 3);
        due("lay", x.lay(0, 0, 1, 258), 1);
        items(x, 0, 0, 1, 2, 3);
    }

    @Says(promise = 34, value = "BAD; NULL; CAST; INDEX.")
    private static void p34LayRefused() {
        ProofDay x = withSheet(1, 7, 8);
        due("sheet 4", x.lay(4, 1, 0, 5), BAD);
        due("sheet -1", x.lay(-1, 1, 0, 5), BAD);
        due("form 3", x.lay(0, 3, 0, 5), BAD);
        due("form -1", x.lay(0, -1, 0, 5), BAD);
        due("no finding", x.count(8), 0);
        due("NULL", x.lay(1, 1, 0, 5), NULL);
        due("CAST, a lesser form", x.lay(0, 0, 0, 5), CAST);
        due("CAST, a greater form", x.lay(0, 2, 0, 5), CAST);
        due("INDEX 2", x.lay(0, 1, 2, 5), INDEX);
        due("INDEX -1", x.lay(0, 1, -1, 5), INDEX);
        due("INDEX the least", x.lay(0, 1, LEAST, 5), INDEX);
        due("INDEX the greatest", x.lay(0, 1, GREATEST, 5), INDEX);
        items(x, 0, 1, 7, 8);
    }

    @Says(promise = 35, value = "BAD: the least int; so are NULL, CAST, INDEX (count() 8 tells).")
    private static void p35Get() {
        ProofDay x = withSheet(1, 7, 8);
        int[][] bad = {{4, 1, 0}, {-1, 1, 0}, {0, 3, 0}, {0, -1, 0}};
        for (int[] b : bad) {
            due("get" + Arrays.toString(b), x.get(b[0], b[1], b[2]), LEAST);
            due("no finding", x.count(8), 0);
        }
        int[][] found = {{1, 1, 0, 1}, {0, 0, 0, 3}, {0, 1, 2, 2}, {0, 2, 0, 3}, {0, 1, -1, 2}, {3, 1, 0, 1},
            {0, 1, LEAST, 2}, {2, 0, 0, 1}, {0, 1, GREATEST, 2}};
        for (int[] f : found) {
            due("get" + Arrays.toString(f), x.get(f[0], f[1], f[2]), LEAST);
            due("the finding", x.count(8), f[3]);
        }
        ProofDay y = withSheet(2, LEAST);
        due("an item that is the least int", y.get(0, 2, 0), LEAST);
        due("is no finding", y.count(8), 0);
        due("the last of sixty", withSheet(0, new int[60]).get(0, 0, 59), 0);
    }

    @Says(promise = 36, value = "n items of SHEET s, from i on, come to SHEET t (perhaps s, as they were), from "
        + "j on: 1.")
    private static void p36Copy() {
        ProofDay x = withSheet(1, 1, 2, 3, 4, 5);
        due("upwards", x.copy(0, 0, 0, 1, 4), 1);
        items(x, 0, 1, 1, 1, 2, 3, 4);
        due("downwards", x.copy(0, 1, 0, 0, 4), 1);
        items(x, 0, 1, 1, 2, 3, 4, 4);
        due("onto itself", x.copy(0, 0, 0, 0, 5), 1);
        items(x, 0, 1, 1, 2, 3, 4, 4);
        x.sheet(1, 1, 2);
        due("to another", x.copy(0, 3, 1, 0, 2), 1);
        items(x, 1, 1, 4, 4);
        due("one", x.copy(0, 0, 1, 1, 1), 1);
        items(x, 1, 1, 4, 1);
        items(x, 0, 1, 1, 2, 3, 4, 4);
        due("none", x.copy(0, 0, 1, 0, 0), 1);
        items(x, 1, 1, 4, 1);
        ProofDay y = withSheet(2, new int[60]);
        y.lay(0, 2, 59, LEAST);
        y.sheet(3, 2, 60);
        due("sixty", y.copy(0, 0, 3, 0, 60), 1);
        due("the last of them", y.get(3, 2, 59), LEAST);
    }

    @Says(promise = 36, value = "BAD: the SHEETS; NULL: s, t; STORE;")
    private static void p36CopyRefused() {
        ProofDay x = withSheet(1, 1, 2);
        x.sheet(1, 2, 2);
        int[][] bad = {{4, 0}, {-1, 0}, {0, 4}, {0, -1}, {3, 4}, {4, 3}};
        for (int[] b : bad) {
            due("copy of sheets " + Arrays.toString(b), x.copy(b[0], 0, b[1], 0, 1), BAD);
        }
        due("no finding", x.count(8), 0);
        due("s is LOST", x.copy(3, 0, 0, 0, 1), NULL);
        due("t is LOST", x.copy(0, 0, 3, 0, 1), NULL);
        due("both are", x.copy(3, 0, 3, 0, 0), NULL);
        due("unlike", x.copy(0, 0, 1, 0, 1), STORE);
        due("unlike, and none", x.copy(1, 0, 0, 0, 0), STORE);
        items(x, 0, 1, 1, 2);
    }

    @Says(promise = 36, value = "INDEX: below 0, not so many (with n 0, too, if i or j is above how many there are).")
    private static void p36CopyIndex() {
        ProofDay x = withSheet(1, 1, 2, 3, 4, 5);
        x.sheet(1, 1, 3);
        int[][] wrongOnes = {
            {-1, 0, 1}, {0, -1, 1}, {0, 0, -1}, {-1, 0, 0}, {0, -1, 0}, {3, 0, 3}, {0, 1, 3}, {0, 0, 4}, {5, 0, 1},
            {0, 3, 1}, {6, 0, 0}, {0, 4, 0}, {6, 0, -1}, {GREATEST, 0, 0}, {0, GREATEST, 0}, {GREATEST, 0, 1},
            {0, GREATEST, 1}, {0, 0, GREATEST}, {1, 1, GREATEST}, {LEAST, 0, 0}, {0, LEAST, 0}, {0, 0, LEAST},
            {GREATEST, GREATEST, GREATEST}, {LEAST, LEAST, LEAST}, {-1, -1, 2}
        };
        for (int[] w : wrongOnes) {
            due("copy" + Arrays.toString(w), x.copy(0, w[0], 1, w[1], w[2]), INDEX);
        }
        items(x, 1, 1, 0, 0, 0);
        due("none, at both ends", x.copy(0, 5, 1, 3, 0), 1);
        due("just so many", x.copy(0, 2, 1, 0, 3), 1);
        items(x, 1, 1, 3, 4, 5);
        ProofDay y = withSheet(0);
        due("none of none", y.copy(0, 0, 0, 0, 0), 1);
        due("behind none", y.copy(0, 1, 0, 0, 0), INDEX);
    }

    @Says(promise = 37, value = "from item 0 on, as many as there are items, 10 at most: how many.")
    private static void p37WriteMany() {
        for (int length = 0; length <= 12; length++) {
            ProofDay x = withSheet(2, new int[length]);
            for (int i = 0; i < length; i++) {
                x.lay(0, 2, i, 77);
            }
            due("write to " + length, x.write(0), Math.min(length, 10));
            for (int i = 0; i < length; i++) {
                due("item " + i, x.get(0, 2, i), i < 10 ? NONE : 77);
            }
        }
        due("write to 60", withSheet(0, new int[60]).write(0), 10);
    }

    @Says(promise = 37, value = "In which MINUTES LINES 0 on are CORRECTED (NONE; also of ones that there are not) "
        + "comes to a SHEET (of each the lowest bits that an item has, with its sign)")
    private static void p37Write() {
        for (int form = 0; form < 3; form++) {
            ProofDay x = day("l1;t9;d1;t1", "a9;q9", times(11, "00") + ";01;12");
            withEvents(x, 8, COFFEE, 0, 22);
            x.limit(24);
            x.sheet(3, form, 6);
            due("write", x.write(3), 6);
            items(x, 3, form, 1, 23, 0, NONE, NONE, NONE);
            x.type(0, ';');
            due("with a fault", x.write(3), 6);
            items(x, 3, form, NONE, NONE, NONE);
        }
        ProofDay ten = day(times(10, "l1"), "q9", "09");
        ten.sheet(0, 0, 10);
        due("ten", ten.write(0), 10);
        due("the tenth", ten.get(0, 0, 9), 0);
        due("the ninth", ten.get(0, 0, 8), NONE);
    }

    @Says(promise = 37, value = "BAD; NULL.")
    private static void p37WriteRefused() {
        ProofDay x = withSheet(0, 7);
        due("sheet 4", x.write(4), BAD);
        due("sheet -1", x.write(-1), BAD);
        due("no finding", x.count(8), 0);
        due("LOST", x.write(3), NULL);
        due("the finding", x.count(8), 1);
        items(x, 0, 0, 7);
    }

    @Says(promise = 38, value = "0 LINES, 1 READERS, 2 SHIFTS, 3 to 5 bytes of texts, 6 EVENTS, 7 SEEN, 8 the number "
        + "of the latest FINDING (0 before any). BAD.")
    private static void p38Count() {
        ProofDay x = day(times(10, "l1"), times(6, "q1"), times(16, "00"));
        withEvents(x, 8, COUGH, 0, 0);
        for (int i = 0; i < 8; i++) {
            x.seen(0, 0, 0);
        }
        int[] full = {10, 6, 16, 29, 17, 47, 8, 8, 0};
        for (int what = 0; what <= 8; what++) {
            due("full, count(" + what + ")", x.count(what), full[what]);
        }
        due("what 9", x.count(9), BAD);
        due("what -1", x.count(-1), BAD);
        due("what the least", x.count(LEAST), BAD);
        due("what the greatest", x.count(GREATEST), BAD);
    }

    @Says(promise = 39, value = "as longs that wrap.")
    private static void p39DigestWraps() {
        // Worked out with numbers that don't wrap, then modulo 2^64.
        due("new", new ProofDay().digest(), 7881193240733973969L);
    }

    private static final class Sum {
        long h = 17;

        void and(long v) {
            h = 31 * h + v;
        }
    }

    private static void sumOfThings(ProofDay x, Sum sum) {
        for (int what = 0; what <= 7; what++) {
            sum.and(x.count(what));
        }
        for (int text = 0; text < 3; text++) {
            sum.and(x.fault(text));
        }
        for (int i = 0; i < 16; i++) {
            sum.and(x.shift(i, 0));
            sum.and(x.shift(i, 1));
        }
        for (int i = 0; i < x.count(2); i++) {
            sum.and(x.done(i, 0));
            sum.and(x.done(i, 1));
        }
    }

    private static void sumOfLines(ProofDay x, Sum sum) {
        for (int i = 0; i < x.count(0); i++) {
            for (int what = 0; what < 3; what++) {
                sum.and(x.line(i, what));
            }
            for (int what = 0; what < 3; what++) {
                sum.and(x.margin(i, what));
            }
            sum.and(x.kind(i));
            sum.and(x.chance(5, i, 0));
            sum.and(x.chance(5, i, 1));
        }
    }

    private static void sumOfReaders(ProofDay x, Sum sum) {
        for (int i = 0; i < x.count(1); i++) {
            sum.and(x.reader(i, 0));
            sum.and(x.reader(i, 1));
            for (int what = 0; what < 4; what++) {
                sum.and(x.night(i, what));
            }
            sum.and(x.keens(i));
            sum.and(x.ask(i));
        }
    }

    private static void sumOfPlans(ProofDay x, Sum sum) {
        for (int minute = 0; minute < 24; minute++) {
            sum.and(x.marked(minute));
        }
        sum.and(x.harm());
        sum.and(x.worst());
        sum.and(x.left(0));
        sum.and(x.left(1));
        for (int v : moreOf(x)) {
            sum.and(v);
        }
        sum.and(x.late());
        for (int v : turnOf(x)) {
            sum.and(v);
        }
        sum.and(x.hush(NONE));
        sum.and(x.hush(0));
        sum.and(x.never());
        sum.and(x.days(7, 12, 0));
        sum.and(x.days(7, 12, 1));
    }

    private static void isSum(String name, ProofDay x) {
        Sum sum = new Sum();
        sumOfThings(x, sum);
        sumOfLines(x, sum);
        sumOfReaders(x, sum);
        sumOfPlans(x, sum);
        due("digest of " + name, x.digest(), sum.h);
    }

    @Says(promise = 39, value = "h is 17; h becomes 31 h and each of (of each thing all that is told of it, then of "
        + "the next one)")
    private static void p39DigestOfEach() {
        isSum("a new one", new ProofDay());
        isSum("lines alone", day("l9;t5", "", ""));
        isSum("readers alone", day("", "a9;o5", ""));
        isSum("shifts alone", day("", "", "00;59"));
        isSum("texts with faults", day("l9;", "a9;x", "00;6"));
        ProofDay some = day("l2;t9;d5", "a5;q4", "01;10;12;00");
        isSum("some", some);
        some.limit(3);
        some.event(COUGH, 0, 1);
        some.event(COUGH, 1, 0);
        some.event(COFFEE, 1, 1);
        isSum("some, with events", some);
        some.seen(3, 2, 1);
        some.seen(0, 0, 0);
        isSum("some, with what was seen", some);
        ProofDay full = day("l1;d2;t3;l4;d5;t6;l7;d8;t9;l9", "a9;q8;o7;a6;q5;o4",
            "00;11;22;33;44;55;06;17;28;39;40;51;02;13;24;35");
        for (int i = 0; i < 8; i++) {
            full.event(i / 5, i % 5, i % 3);
            full.seen(3 * i / 2, i % 3, i / 7);
        }
        isSum("all that there may be", full);
        // Of the SHIFTS that 7 draws: here the twelfth tells, and there a thirteenth would.
        ProofDay twelfth = day(times(7, "l1"), times(4, "q9"), "");
        twelfth.limit(2);
        isSum("no less than twelve drawn", twelfth);
        isSum("no more than twelve drawn", day(times(8, "l1"), times(3, "q9"), ""));
    }

    @Says(promise = 39, value = "count() 0 to 7")
    private static void p39DigestLeavesOut() {
        ProofDay x = new ProofDay();
        x.lose(0);
        x.sheet(1, 2, 3);
        due("neither findings nor sheets", x.digest(), 7881193240733973969L);
        x.limit(24);
        due("nor LIMIT by itself", x.digest(), 7881193240733973969L);
        due("it makes no finding", x.count(8), 1);
    }
}
