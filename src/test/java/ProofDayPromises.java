/** For each promise of the document: ordinary calls, its edges, and wrong calls, with answers worked out by hand. */
public final class ProofDayPromises {
    private static final int NONE = -1, BAD = -2, NOT = -3, FULL = -4;
    private static final int NULL = -11, INDEX = -12, CAST = -13, STORE = -14, SIZE = -15;
    private static final int LEAST = Integer.MIN_VALUE;
    private static final int[] ODD = {Integer.MIN_VALUE, -7, Integer.MAX_VALUE};

    private static int wrong = 0;
    private static int asked = 0;

    private static void due(String call, long got, long want) {
        asked++;
        if (got != want) {
            wrong++;
            System.out.println(call + " answered " + got + ", due is " + want);
        }
    }

    private static void typed(ProofDay x, int text, String signs) {
        for (int i = 0; i < signs.length(); i++) {
            x.type(text, signs.charAt(i));
        }
    }

    private static ProofDay day(String lines, String readers, String shifts) {
        ProofDay x = new ProofDay();
        typed(x, 0, lines);
        typed(x, 1, readers);
        typed(x, 2, shifts);
        return x;
    }

    public static void main(String[] args) {
        p1NewObject();
        p2Type();
        p3Wipe();
        p4Undo();
        p5Fault();
        p6Line();
        p7Reader();
        p8Shift();
        p9Limit();
        p10Event();
        p11Back();
        p12Read();
        p13Margin();
        p14Night();
        p15Done();
        p16Marked();
        p17Harm();
        p18Worst();
        p19Left();
        p20More();
        p21Late();
        p22Turn();
        p23Hush();
        p24Seen();
        p25Forget();
        p26Never();
        p27Keens();
        p28Kind();
        p29Ask();
        p30Chance();
        p31Days();
        p32Sheet();
        p33Lose();
        p34Lay();
        p35Get();
        p36Copy();
        p37Write();
        p38Count();
        p39Digest();
        fullDay();
        System.out.println(wrong == 0 ? asked + " answers are as due" : wrong + " answers are not as due");
        if (wrong != 0) {
            System.exit(1);
        }
    }

    private static void p1NewObject() {
        due("NONE", ProofDay.NONE, -1);
        due("BAD", ProofDay.BAD, -2);
        due("NOT", ProofDay.NOT, -3);
        due("FULL", ProofDay.FULL, -4);
        ProofDay x = new ProofDay();
        for (int what = 0; what <= 8; what++) {
            due("new: count " + what, x.count(what), 0);
        }
        for (int text = 0; text < 3; text++) {
            due("new: fault " + text, x.fault(text), NONE);
        }
        for (int s = 0; s < 4; s++) {
            due("new: lose " + s, x.lose(s), NULL);
        }
        due("new: limit", x.limit(12), 12);
    }

    private static void p2Type() {
        int[] room = {29, 17, 47};
        for (int text = 0; text < 3; text++) {
            ProofDay x = new ProofDay();
            for (int i = 1; i <= room[text]; i++) {
                due("type", x.type(text, i % 2 == 0 ? 255 : 0), i);
            }
            due("type: full", x.type(text, 65), FULL);
            due("type: bad ahead of full", x.type(text, 256), BAD);
            due("type: bad ahead of full", x.type(text, -1), BAD);
            due("type: nothing came", x.count(3 + text), room[text]);
            due("type: another text has room", x.type((text + 1) % 3, 65), 1);
        }
        ProofDay x = new ProofDay();
        due("type: text", x.type(3, 65), BAD);
        due("type: text", x.type(-1, 65), BAD);
        due("type: byte", x.type(0, 256), BAD);
        due("type: byte", x.type(0, -1), BAD);
        for (int odd : ODD) {
            due("type: odd", x.type(odd, 65), BAD);
            due("type: odd", x.type(1, odd), BAD);
        }
        due("type: changed nothing", x.count(3) + x.count(4) + x.count(5), 0);
    }

    private static void p3Wipe() {
        ProofDay x = day("l2;d5", "q9", "00;01");
        due("wipe", x.wipe(0), 5);
        due("wipe: again", x.wipe(0), 0);
        due("wipe: lines", x.count(0), 0);
        due("wipe: readers stay", x.count(1), 1);
        due("wipe", x.wipe(2), 5);
        due("wipe", x.wipe(1), 2);
        due("wipe", x.wipe(3), BAD);
        due("wipe", x.wipe(-1), BAD);
        due("wipe: anew", x.type(0, 't'), 1);
    }

    private static void p4Undo() {
        ProofDay x = day("l2;", "", "");
        due("undo: as if empty", x.count(0), 0);
        due("undo", x.undo(0), 2);
        due("undo: a line again", x.count(0), 1);
        due("undo", x.undo(0), 1);
        due("undo: no line", x.count(0), 0);
        due("undo", x.undo(0), 0);
        due("undo: empty", x.undo(0), NOT);
        due("undo: bad", x.undo(3), BAD);
        due("undo: bad", x.undo(-1), BAD);
    }

    private static void faultOf(int text, String signs, int want) {
        ProofDay x = new ProofDay();
        typed(x, text, signs);
        due("fault " + text + " of " + signs, x.fault(text), want);
        int pairs = want == NONE ? (signs.length() + 1) / 3 : 0;
        due("pairs " + text + " of " + signs, x.count(text), pairs);
    }

    private static void p5Fault() {
        faultOf(0, "", NONE);
        faultOf(0, "l", 1);
        faultOf(0, "l1", NONE);
        faultOf(0, "l9;", 3);
        faultOf(0, "l0", 1);
        faultOf(0, "l:", 1);
        faultOf(0, "l1d", 2);
        faultOf(0, "l1;d2;t3", NONE);
        faultOf(0, "l1;d2;a3", 6);
        faultOf(0, "L1", 0);
        faultOf(0, ";", 0);
        faultOf(0, "l1;;", 3);
        faultOf(0, "l1;d2;t", 7);
        faultOf(0, "xyz", 0);
        faultOf(0, "l" + (char) 0, 1);
        faultOf(0, "" + (char) 255, 0);
        faultOf(0, "t9;t9;t9;t9;t9;t9;t9;t9;t9;t9", NONE);
        faultOf(1, "a1;q5;o9", NONE);
        faultOf(1, "l1", 0);
        faultOf(1, "a0", 1);
        faultOf(1, "a1;q2;o3;a4;q5;o6", NONE);
        faultOf(2, "00;59", NONE);
        faultOf(2, "60", 0);
        faultOf(2, "/0", 0);
        faultOf(2, "0/", 1);
        faultOf(2, "0:", 1);
        faultOf(2, "5", 1);
        faultOf(2, "00;11;22;33;44;55;06;17;28;39;40;51;02;13;24;35", NONE);
        ProofDay x = new ProofDay();
        due("fault: bad", x.fault(3), BAD);
        due("fault: bad", x.fault(-1), BAD);
    }

    private static void p6Line() {
        ProofDay x = day("l2;d5;t9", "", "");
        int[][] want = {{0, 2, 1}, {1, 5, 3}, {2, 9, 5}};
        for (int line = 0; line < 3; line++) {
            for (int what = 0; what < 3; what++) {
                due("line " + line + " " + what, x.line(line, what), want[line][what]);
            }
        }
        due("line: none such", x.line(3, 0), BAD);
        due("line: none such", x.line(-1, 0), BAD);
        due("line: what", x.line(0, 3), BAD);
        due("line: what", x.line(0, -1), BAD);
        x.type(0, ';');
        due("line: with a fault", x.line(0, 0), BAD);
        for (int odd : ODD) {
            due("line: odd", x.line(odd, 0), BAD);
        }
    }

    private static void p7Reader() {
        ProofDay x = day("", "a4;q1;o9", "");
        int[][] want = {{0, 4}, {1, 1}, {2, 9}};
        for (int reader = 0; reader < 3; reader++) {
            due("reader sort", x.reader(reader, 0), want[reader][0]);
            due("reader keen", x.reader(reader, 1), want[reader][1]);
        }
        due("reader: none such", x.reader(3, 0), BAD);
        due("reader: none such", x.reader(-1, 0), BAD);
        due("reader: what", x.reader(0, 2), BAD);
        due("reader: what", x.reader(0, -1), BAD);
    }

    private static void p8Shift() {
        ProofDay x = day("", "", "07;59");
        due("shift", x.shift(0, 0), 0);
        due("shift", x.shift(0, 1), 7);
        due("shift", x.shift(1, 0), 5);
        due("shift", x.shift(1, 1), 9);
        due("shift: none", x.shift(2, 0), NONE);
        due("shift: none", x.shift(15, 1), NONE);
        due("shift: bad", x.shift(16, 0), BAD);
        due("shift: bad", x.shift(-1, 0), BAD);
        due("shift: what", x.shift(0, 2), BAD);
        due("shift: what", x.shift(0, -1), BAD);
        due("shift: what ahead of none", x.shift(9, 2), BAD);
    }

    private static void p9Limit() {
        ProofDay x = new ProofDay();
        due("limit", x.limit(1), 12);
        due("limit", x.limit(24), 1);
        due("limit: bad", x.limit(0), BAD);
        due("limit: bad", x.limit(25), BAD);
        for (int odd : ODD) {
            due("limit: bad", x.limit(odd), BAD);
        }
        due("limit: as it was", x.limit(12), 24);
    }

    private static void p10Event() {
        ProofDay x = new ProofDay();
        due("event: kind", x.event(2, 0, 0), BAD);
        due("event: kind", x.event(-1, 0, 0), BAD);
        due("event: reader", x.event(0, 6, 0), BAD);
        due("event: reader", x.event(0, -1, 0), BAD);
        due("event: minute", x.event(0, 0, 24), BAD);
        due("event: minute", x.event(0, 0, -1), BAD);
        for (int i = 1; i <= 8; i++) {
            due("event", x.event(i % 2, i % 6, 23), i);
        }
        due("event: full", x.event(0, 0, 0), FULL);
        due("event: bad ahead of full", x.event(2, 0, 0), BAD);
        due("event: how many", x.count(6), 8);
    }

    private static void p11Back() {
        ProofDay x = day("l5", "q1", "00");
        x.event(1, 0, 0);
        x.event(0, 0, 0);
        due("back: a cough", x.harm(), 5);
        due("back", x.back(), 1);
        due("back: no cough", x.harm(), 0);
        due("back", x.back(), 0);
        due("back: none", x.back(), NOT);
        due("back: none", x.count(6), 0);
    }

    private static void layAll(ProofDay x, int s, int form, int... items) {
        for (int i = 0; i < items.length; i++) {
            x.lay(s, form, i, items[i]);
        }
    }

    private static void p12Read() {
        ProofDay x = day("l5", "q1", "00");
        x.sheet(0, 2, 8);
        layAll(x, 0, 2, 1, 5, 23, 0, 0, 0, 0, 0);
        due("read: whole ones alone", x.read(0), 2);
        due("read: they are there", x.count(6), 2);
        due("read: they cough", x.harm(), 5);
        x.sheet(1, 0, 9);
        layAll(x, 1, 0, 0, 1, 1, 0, 6, 0, 0, 1, 1);
        due("read: up to the first that may not be", x.read(1), 1);
        x.lay(1, 0, 1, -1);
        due("read: none may be", x.read(1), 0);
        layAll(x, 1, 0, 2, 0, 0);
        due("read: kind", x.read(1), 0);
        layAll(x, 1, 0, 0, 0, 24);
        due("read: minute", x.read(1), 0);
        x.sheet(2, 1, 60);
        due("read: as long as there is room", x.read(2), 5);
        due("read: no room", x.read(2), 0);
        due("read: full", x.count(6), 8);
        x.sheet(2, 1, 2);
        x.back();
        due("read: none whole", x.read(2), 0);
        x.sheet(2, 1, 0);
        due("read: no items", x.read(2), 0);
        x.sheet(2, 1, 3);
        due("read: just one", x.read(2), 1);
        due("read: no finding yet", x.count(8), 0);
        due("read: bad", x.read(4), BAD);
        due("read: bad", x.read(-1), BAD);
        due("read: lost", x.read(3), NULL);
        due("read: finding", x.count(8), 1);
    }

    private static void p13Margin() {
        // Reader 0 aloud ends in minute 1, reader 1 quiet in minute 0; both find line 0.
        ProofDay x = day("l4;t9;d3", "a9;q9", "00;10;10;02;12");
        due("margin by", x.margin(0, 0), 1);
        due("margin minute", x.margin(0, 1), 0);
        due("margin reads", x.margin(0, 2), 3);
        due("margin: unread", x.margin(1, 0), NONE);
        due("margin: unread", x.margin(1, 1), NONE);
        due("margin: unread", x.margin(1, 2), 0);
        due("margin: by another", x.margin(2, 0), 1);
        due("margin: minute", x.margin(2, 1), 2);
        due("margin: reads", x.margin(2, 2), 2);
        due("margin: none such", x.margin(3, 0), BAD);
        due("margin: none such", x.margin(-1, 0), BAD);
        due("margin: what", x.margin(0, 3), BAD);
        due("margin: what", x.margin(0, -1), BAD);
        // Like ones: the least reader, whichever is told first.
        ProofDay y = day("l4", "q9;q9", "10;00");
        due("margin: of like ones", y.margin(0, 0), 0);
        ProofDay z = day("l4", "q9;q9", "00;10");
        due("margin: of like ones", z.margin(0, 0), 0);
        // The one told later may end first, and a read that finds nothing does not count.
        ProofDay w = day("d4", "q1;q9;a9", "20;10;00");
        due("margin: ends first", w.margin(0, 0), 1);
        due("margin: reads", w.margin(0, 2), 3);
        // The aloud one's minute is the last one of the shift.
        ProofDay v = day("d4", "a9", "00");
        due("margin: last minute", v.margin(0, 1), 1);
        ProofDay oldOne = day("l2;l3", "o9", "00;01");
        due("margin: old passes over", oldOne.margin(0, 0), NONE);
        due("margin: old finds", oldOne.margin(1, 0), 0);
    }

    private static void p14Night() {
        ProofDay x = day("l4;t9", "a3;q9;o9", "00;01;03;00;10;40");
        due("night done", x.night(0, 0), 3);
        due("night tired", x.night(0, 1), 6);
        due("night last", x.night(0, 2), 5);
        // Keen 5, 3, 1 against hard 1, 5, 1.
        due("night finds", x.night(0, 3), 2);
        due("night quiet tired", x.night(1, 1), 1);
        due("night quiet last", x.night(1, 2), 0);
        due("night none", x.night(2, 0), 0);
        due("night none", x.night(2, 1), 0);
        due("night none", x.night(2, 2), NONE);
        due("night none", x.night(2, 3), 0);
        due("night: none such", x.night(3, 0), BAD);
        due("night: there is no reader 4", x.night(4, 0), BAD);
        due("night: none such", x.night(-1, 0), BAD);
        due("night: what", x.night(0, 4), BAD);
        due("night: what", x.night(0, -1), BAD);
        x.limit(5);
        due("night: limit", x.night(0, 0), 2);
        due("night: limit", x.night(0, 2), 3);
        x.limit(1);
        due("night: aloud needs two", x.night(0, 0), 0);
        due("night: quiet needs one", x.night(1, 0), 1);
        coffees();
    }

    private static void coffees() {
        // Aloud: begins in 0, 2, 4; tired 0, 2, 4, and 6 behind.
        ProofDay x = day("l4", "a9", "00;00;00");
        due("coffee: none", x.night(0, 1), 6);
        x.event(1, 0, 0);
        due("coffee: wasted on one who is not tired", x.night(0, 1), 6);
        x.back();
        x.event(1, 0, 1);
        due("coffee: 2 less 3 is 0", x.night(0, 1), 4);
        x.back();
        x.event(1, 0, 3);
        due("coffee: behind the second", x.night(0, 1), 3);
        x.back();
        x.event(1, 0, 4);
        due("coffee: as the third begins", x.night(0, 1), 3);
        x.event(1, 0, 4);
        due("coffee: two of them", x.night(0, 1), 2);
        x.back();
        x.back();
        x.event(1, 0, 5);
        due("coffee: too late", x.night(0, 1), 6);
        x.back();
        x.event(1, 1, 4);
        due("coffee: another's", x.night(0, 1), 6);
    }

    private static void p15Done() {
        ProofDay x = day("l4;t9", "a3;q9", "00;15;01;10;20;11");
        int[] begins = {0, NONE, 2, 0, NONE, 1};
        int[] finds = {1, 0, 0, 1, 0, 1};
        for (int i = 0; i < 6; i++) {
            due("done begins " + i, x.done(i, 0), begins[i]);
            due("done finds " + i, x.done(i, 1), finds[i]);
        }
        due("done: just no such line", day("l4", "q9", "01;00").done(0, 0), NONE);
        due("done: it took no minute", day("l4", "q9", "01;00").done(1, 0), 0);
        due("done: just no such reader", day("l4", "q9", "10").done(0, 0), NONE);
        due("done: none such", x.done(6, 0), BAD);
        due("done: none such", x.done(-1, 0), BAD);
        due("done: what", x.done(0, 2), BAD);
        due("done: what", x.done(0, -1), BAD);
        x.event(0, 0, 1);
        due("done: coughed in the last minute", x.done(0, 1), 0);
        x.back();
        x.event(0, 0, 0);
        due("done: coughed in the first minute", x.done(0, 1), 0);
        x.back();
        x.event(0, 0, 2);
        due("done: coughed behind", x.done(0, 1), 1);
        x.event(0, 1, 0);
        due("done: another's cough", x.done(0, 1), 1);
        x.limit(3);
        due("done: would have a minute of the limit", x.done(2, 0), NONE);
        due("done: such a one finds nothing", x.done(2, 1), 0);
    }

    private static void p16Marked() {
        ProofDay x = day("l4;d3;t9", "q9;a9", "00;12;01");
        due("marked", x.marked(0), 1);
        due("marked", x.marked(1), 3);
        due("marked", x.marked(23), 3);
        due("marked: bad", x.marked(24), BAD);
        due("marked: bad", x.marked(-1), BAD);
        due("marked: bare", new ProofDay().marked(0), 0);
    }

    private static void p17Harm() {
        ProofDay x = day("l4;d3;t9", "q4;a4", "00;12;01");
        due("harm: none", x.harm(), 0);
        x.event(0, 1, 1);
        due("harm: 9", x.harm(), 9);
        x.wipe(2);
        due("harm: all", x.harm(), 16);
        x.type(2, '9');
        due("harm: a fault", x.harm(), 16);
        x.wipe(0);
        due("harm: no lines", x.harm(), 0);
        // Tired by 1 each time: keen 4, 3, 2, 1 against hard 3.
        due("harm: tired", day("d1;d2;d3;d4", "q4", "00;01;02;03").harm(), 7);
        due("harm: aloud by 2 more", day("t7", "a3", "00").harm(), 0);
        due("harm: aloud by 2 more", day("t7", "a2", "00").harm(), 7);
        due("harm: old, grave 2", day("l2", "o9", "00").harm(), 2);
        due("harm: old, grave 3", day("l3", "o9", "00").harm(), 0);
    }

    private static void p18Worst() {
        ProofDay x = day("l4;d9;t9;l1", "q9", "01");
        due("worst", x.worst(), 2);
        x.wipe(2);
        due("worst: of like ones the least", x.worst(), 1);
        typed(x, 2, "01;02;03");
        due("worst", x.worst(), 0);
        typed(x, 2, ";00");
        due("worst: none", x.worst(), NONE);
        due("worst: no lines", new ProofDay().worst(), NONE);
    }

    private static void p19Left() {
        ProofDay x = day("l4;d9;t9;l1", "q4;o9", "01;12;02;13");
        due("left unread", x.left(0), 1);
        due("left passed", x.left(1), 8);
        due("left: bad", x.left(2), BAD);
        due("left: bad", x.left(-1), BAD);
        x.limit(1);
        due("left unread", x.left(0), 9);
        due("left passed", x.left(1), 0);
        due("left: ten lines", day("l1;l1;l1;l1;l1;l1;l1;l1;l1;l1", "", "").left(0), 1023);
    }

    private static void p20More() {
        ProofDay x = day("l4;d9;t7", "q2;q9", "");
        due("more reader", x.more(0), 1);
        due("more line", x.more(1), 1);
        due("more harm", x.more(2), 11);
        due("more: bad", x.more(3), BAD);
        due("more: bad", x.more(-1), BAD);
        // Nothing helps: the least reader and line, and the harm as it is.
        ProofDay y = day("t4;t9", "q1;q1", "");
        due("more: no better", y.more(0), 0);
        due("more: no better", y.more(1), 0);
        due("more: no better", y.more(2), 13);
        due("more: no readers", day("l1", "", "").more(2), NONE);
        due("more: no lines", day("", "q1", "").more(0), NONE);
        // A seventeenth shift has room, and it comes behind the others.
        ProofDay z = day("d4", "a1;q9", "10;00;00;00;00;00;00;00;00;00;00;00;00;00;00;00");
        z.event(0, 1, 0);
        z.event(0, 0, 0);
        due("more: all tired", z.harm(), 4);
        due("more: seventeenth", z.more(0), 1);
        due("more: seventeenth", z.more(1), 0);
        due("more: seventeenth", z.more(2), 0);
        due("more: only in thought", z.count(2), 16);
        due("more: only in thought", z.harm(), 4);
        ProofDay w = day("l4;l5", "q9", "00");
        w.limit(1);
        due("more: the limit stands", w.more(2), 5);
    }

    private static void p21Late() {
        ProofDay x = day("l4;d9;t7", "q9;a9", "00;01;12");
        due("late", x.late(), 2);
        x.limit(1);
        due("late: whatever the limit is", x.late(), 2);
        due("late: the limit stays", x.limit(12), 1);
        due("late: no harm at all", new ProofDay().late(), 1);
        due("late: never", day("l4", "", "").late(), NONE);
        ProofDay y = day("l4;t9", "q9;a9", "11;11;11;11;11;11;11;11;11;11;11;10;01");
        // Tired by 20 in minute 20, less 12, so that the last shift finds it still.
        for (int i = 0; i < 4; i++) {
            y.event(1, 1, 20);
        }
        due("late: the last of all", y.late(), 24);
        due("late: 24 wanted, 12 is", y.harm(), 4);
    }

    private static void p22Turn() {
        // Keen 5, 4, 3: t wants to be first, d third.
        ProofDay x = day("d4;l1;t9", "q5", "00;01;02");
        due("turn first", x.turn(0), 0);
        due("turn other", x.turn(1), 2);
        due("turn harm", x.turn(2), 0);
        due("turn: bad", x.turn(3), BAD);
        due("turn: bad", x.turn(-1), BAD);
        due("turn: only in thought", x.harm(), 9);
        due("turn: only in thought", x.shift(0, 1), 0);
        ProofDay y = day("l4", "q9", "00;00;00");
        due("turn: no better", y.turn(0), 0);
        due("turn: no better", y.turn(1), 1);
        due("turn: no better", y.turn(2), 0);
        due("turn: one alone", day("l4", "q9", "00").turn(0), NONE);
        due("turn: none", new ProofDay().turn(2), NONE);
        // Two different pairs are as good; the lesser row counts.
        ProofDay z = day("t4;l1", "q5", "01;00;00");
        due("turn: least row", z.turn(0), 0);
        due("turn: least row", z.turn(1), 1);
        due("turn: worse is told too", day("t4;l1", "q5", "00;01").turn(2), 4);
    }

    private static void p23Hush() {
        ProofDay x = day("l4;l5", "q9", "00;01");
        due("hush: none needed", x.hush(NONE), 0);
        due("hush: none needed", x.hush(0), NONE);
        due("hush: none needed", x.hush(1), NONE);
        x.event(1, 0, 5);
        x.event(0, 0, 0);
        due("hush: one", x.hush(NONE), 1);
        due("hush: which", x.hush(0), 1);
        due("hush: no second", x.hush(1), NONE);
        x.event(0, 3, 0);
        x.event(0, 0, 1);
        due("hush: two", x.hush(NONE), 2);
        due("hush: first", x.hush(0), 1);
        due("hush: second", x.hush(1), 3);
        due("hush: only in thought", x.harm(), 9);
        x.event(0, 0, 1);
        due("hush: three are too many", x.hush(NONE), NONE);
        due("hush: three are too many", x.hush(0), NONE);
        due("hush: three are too many", x.hush(1), NONE);
        due("hush: bad", x.hush(2), BAD);
        due("hush: bad", x.hush(-2), BAD);
        ProofDay y = day("l4", "q9;q9", "00;10");
        y.event(0, 0, 0);
        y.event(0, 1, 0);
        due("hush: either helps", y.hush(NONE), 1);
        due("hush: the lesser", y.hush(0), 0);
        y = day("l4;l5", "q9", "00;01");
        y.event(0, 0, 0);
        y.event(0, 4, 0);
        y.event(0, 0, 1);
        due("hush: the first and the last", y.hush(NONE), 2);
        due("hush: the first and the last", y.hush(0), 0);
        due("hush: the first and the last", y.hush(1), 2);
        y.back();
        y.event(0, 0, 0);
        due("hush: two in one minute", y.hush(0) * 10 + y.hush(1), 2);
        due("hush: unread is not passed", day("l4", "", "").hush(NONE), 0);
    }

    private static void p24Seen() {
        ProofDay x = new ProofDay();
        due("seen: minute", x.seen(24, 0, 0), BAD);
        due("seen: minute", x.seen(-1, 0, 0), BAD);
        due("seen: line", x.seen(0, 10, 0), BAD);
        due("seen: line", x.seen(0, -1, 0), BAD);
        due("seen: is", x.seen(0, 0, 2), BAD);
        due("seen: is", x.seen(0, 0, -1), BAD);
        for (int i = 1; i <= 8; i++) {
            due("seen", x.seen(23, 9, i % 2), i);
        }
        due("seen: full", x.seen(0, 0, 0), FULL);
        due("seen: bad ahead of full", x.seen(0, 0, 2), BAD);
        due("seen: how many", x.count(7), 8);
    }

    private static void p25Forget() {
        ProofDay x = day("l4", "q9", "00");
        x.seen(0, 0, 0);
        due("forget: it can't be", x.keens(0), 0);
        due("forget", x.forget(), 1);
        due("forget: none", x.forget(), 0);
        due("forget: nothing against it", x.keens(0), 1022);
    }

    private static void p26Never() {
        ProofDay x = day("l4", "q9", "00;00");
        x.event(0, 0, 0);
        x.event(0, 0, 0);
        x.event(0, 0, 1);
        due("never: nothing seen", x.never(), 7);
        x.seen(1, 0, 1);
        due("never: the last one", x.never(), 4);
        x.forget();
        x.seen(0, 0, 0);
        due("never: not yet in minute 0", x.never(), 7);
        x.seen(23, 1, 0);
        due("never: of a line that is not", x.never(), 0);
        x.forget();
        x.seen(23, 1, 1);
        due("never: of a line that is not", x.never(), 0);
        due("never: no events", new ProofDay().never(), 0);
    }

    private static void p27Keens() {
        ProofDay x = day("l4;d3;t9", "q5;a1", "01;12");
        due("keens: nothing seen", x.keens(0), 1022);
        x.seen(0, 1, 1);
        due("keens: 3 and more", x.keens(0), 1016);
        due("keens: nothing hangs on that one", x.keens(1), 1022);
        x.seen(23, 2, 0);
        due("keens: aloud 2 and less", x.keens(1), 6);
        x.forget();
        x.seen(0, 2, 0);
        due("keens: in minute 0 not yet", x.keens(1), 1022);
        x.seen(1, 2, 1);
        due("keens: in minute 1", x.keens(1), 1016);
        due("keens: as it is that can't be", x.keens(0), 0);
        due("keens: its own stays", x.reader(1, 1), 1);
        due("keens: bad", x.keens(2), BAD);
        due("keens: bad", x.keens(-1), BAD);
    }

    private static void p28Kind() {
        ProofDay x = day("t4;t9", "q3", "00;01");
        due("kind: nothing seen", x.kind(0), 7);
        x.seen(0, 0, 1);
        due("kind: l or d", x.kind(0), 3);
        due("kind: another line", x.kind(1), 0);
        x.forget();
        x.seen(23, 1, 0);
        due("kind: d or t", x.kind(1), 6);
        due("kind: its own stays", x.line(1, 0), 2);
        due("kind: bad", x.kind(2), BAD);
        due("kind: bad", x.kind(-1), BAD);
    }

    private static void p29Ask() {
        // Found are: line 0 in minute 0 by 5 and more, line 1 in minute 1 by 4, line 2 in minute 2 by 3 and more.
        ProofDay x = day("t4;d9;l5", "q5", "00;01;02");
        // Classes: behind 0: 4, 5; behind 1: {1..3} {4} {5..9}; never less than 5.
        due("ask: 5 at least, at once", x.ask(0), 0);
        x.seen(0, 0, 0);
        // Left 1 to 4: behind 0 all alike, behind 1 {1,2,3} {4}, behind 2 {1,2} {3} {4}.
        due("ask: behind 2", x.ask(0), 2);
        x.seen(23, 0, 1);
        due("ask: none left", x.ask(0), 0);
        // Behind 0 {1..4} {5..9}, behind 1 {1..4} {5} {6..9}.
        due("ask: 4 is less than 5", day("t4;t9", "q5", "00;01").ask(0), 1);
        // The cough leaves all alike behind 0; behind 1 there are {1} {2..9}.
        ProofDay y = day("l4", "q5", "00;00");
        y.event(0, 0, 0);
        due("ask: 8 is less than 9", y.ask(0), 1);
        y.event(0, 0, 1);
        due("ask: nothing tells", y.ask(0), 0);
        due("ask: bad", x.ask(1), BAD);
        due("ask: bad", x.ask(-1), BAD);
    }

    private static void p30Chance() {
        ProofDay x = day("l4;d3", "q3;q3", "00;10");
        due("chance: sure", x.chance(5, 0, 0), 1);
        due("chance: sure", x.chance(5, 0, 1), 1);
        due("chance: never", x.chance(5, 1, 0), 0);
        due("chance: never", x.chance(5, 1, 1), 1);
        x.event(0, 0, 0);
        x.event(0, 1, 0);
        due("chance: not both, 1 less 25 of 256", x.chance(5, 0, 0), 231);
        due("chance: not both, 1 less 25 of 256", x.chance(5, 0, 1), 256);
        due("chance: 3 of 4", x.chance(8, 0, 0), 3);
        due("chance: 3 of 4", x.chance(8, 0, 1), 4);
        due("chance: by 0", x.chance(0, 0, 0), 1);
        due("chance: by 0", x.chance(0, 0, 1), 1);
        due("chance: by 16", x.chance(16, 0, 0), 0);
        due("chance: by 16", x.chance(16, 0, 1), 1);
        long bad = Long.MIN_VALUE + 2;
        due("chance: c", x.chance(17, 0, 0), bad);
        due("chance: c", x.chance(-1, 0, 0), bad);
        due("chance: line", x.chance(0, 2, 0), bad);
        due("chance: line", x.chance(0, -1, 0), bad);
        due("chance: what", x.chance(0, 0, 2), bad);
        due("chance: what", x.chance(0, 0, -1), bad);
        // Eight coughs of one reader: each must not be: (15/16)^8, below 2^32.
        ProofDay y = day("l4", "q3", "00");
        for (int i = 0; i < 8; i++) {
            y.event(0, 0, 0);
        }
        due("chance: below 2^32", y.chance(1, 0, 0), 2562890625L);
        due("chance: below 2^32", y.chance(1, 0, 1), 4294967296L);
        // All kinds of events are by chance: the coffee that undoes being tired, 7 of 16.
        ProofDay z = day("d4;l1", "q3", "01;00");
        z.event(1, 0, 1);
        due("chance: of a coffee", z.chance(7, 0, 0), 7);
        due("chance: of a coffee", z.chance(7, 0, 1), 16);
        due("chance: only in thought", z.count(6), 1);
    }

    private static void p31Days() {
        // Upper bits from SEED 0 on: 0, 54236, 42756, 54885: line 2 by reader 0, line 0 by reader 0.
        // From SEED -1 on (upper bits above 32767, too): 48697, 4409: line 2 by reader 1.
        ProofDay x = day("l1;l2;l4", "q9;q9", "00;01;02");
        due("days: one", x.days(0, 1, 0), 3);
        due("days: one", x.days(0, 1, 1), 2);
        due("days: two", x.days(0, 2, 0), 2);
        due("days: two", x.days(0, 2, 1), 1);
        due("days: none", x.days(0, 0, 0), 7);
        due("days: none", x.days(0, 0, 1), 3);
        x.event(0, 0, 0);
        due("days: reader 0 coughs", x.days(0, 1, 0), 7);
        due("days: it is reader 1", x.days(-1, 1, 0), 3);
        x.back();
        due("days: bad", x.days(0, 17, 0), BAD);
        due("days: bad", x.days(0, -1, 0), BAD);
        due("days: what", x.days(0, 1, 2), BAD);
        due("days: what", x.days(0, 1, -1), BAD);
        due("days: only in thought", x.harm(), 0);
        due("days: no readers", day("l1;l2", "", "").days(3, 16, 0), 3);
        due("days: no readers", day("l1;l2", "", "").days(3, 16, 1), 2);
        due("days: no lines", day("", "q1", "").days(3, 16, 0), 0);
        due("days: any seed", day("l5", "q9", "").days(Integer.MIN_VALUE, 16, 0), 0);
        due("days: any seed", day("l5", "q9", "").days(Integer.MAX_VALUE, 16, 1), 0);
        x.limit(24);
        x.event(0, 0, 0);
        x.event(0, 1, 0);
        due("days: events are as told", x.days(0, 1, 0), 7);
        due("days: read, and passed", x.days(0, 1, 1), 2);
    }

    private static void p32Sheet() {
        ProofDay x = new ProofDay();
        due("sheet", x.sheet(0, 0, 0), 0);
        due("sheet", x.sheet(3, 2, 60), 60);
        due("sheet: sheet", x.sheet(4, 0, 0), BAD);
        due("sheet: sheet", x.sheet(-1, 0, 0), BAD);
        due("sheet: form", x.sheet(0, 3, 0), BAD);
        due("sheet: form", x.sheet(0, -1, 0), BAD);
        due("sheet: above 60", x.sheet(0, 0, 61), BAD);
        due("sheet: no finding", x.count(8), 0);
        due("sheet: size", x.sheet(0, 0, -1), SIZE);
        due("sheet: finding", x.count(8), 5);
        due("sheet: bad ahead of size", x.sheet(0, 3, -1), BAD);
        due("sheet: size", x.sheet(3, 1, Integer.MIN_VALUE), SIZE);
        due("sheet: as it was", x.get(3, 2, 59), 0);
        x.lay(3, 2, 59, 7);
        due("sheet: new", x.sheet(3, 2, 60), 60);
        due("sheet: all 0", x.get(3, 2, 59), 0);
        x.lay(3, 2, 1, 7);
        x.sheet(3, 2, 1);
        x.sheet(3, 2, 2);
        due("sheet: all 0", x.get(3, 2, 1), 0);
    }

    private static void p33Lose() {
        ProofDay x = new ProofDay();
        x.sheet(1, 1, 7);
        due("lose: bad", x.lose(4), BAD);
        due("lose: bad", x.lose(-1), BAD);
        due("lose", x.lose(1), 7);
        due("lose: no finding", x.count(8), 0);
        due("lose: lost", x.lose(1), NULL);
        due("lose: finding", x.count(8), 1);
        x.sheet(1, 1, 0);
        due("lose: of none", x.lose(1), 0);
    }

    private static void p34Lay() {
        ProofDay x = new ProofDay();
        x.sheet(0, 0, 2);
        x.sheet(1, 1, 2);
        x.sheet(2, 2, 2);
        due("lay", x.lay(0, 0, 1, 200), 1);
        due("lay: byte", x.get(0, 0, 1), -56);
        due("lay", x.lay(1, 1, 1, 40000), 1);
        due("lay: short", x.get(1, 1, 1), -25536);
        due("lay", x.lay(2, 2, 1, LEAST + 1), 1);
        due("lay: int", x.get(2, 2, 1), LEAST + 1);
        due("lay: the other one", x.get(2, 2, 0), 0);
        due("lay: sheet", x.lay(4, 0, 0, 0), BAD);
        due("lay: sheet", x.lay(-1, 0, 0, 0), BAD);
        due("lay: form", x.lay(0, 3, 0, 0), BAD);
        due("lay: form ahead of null", x.lay(3, -1, 0, 0), BAD);
        due("lay: no finding", x.count(8), 0);
        due("lay: null", x.lay(3, 0, 9, 0), NULL);
        due("lay: finding", x.count(8), 1);
        due("lay: cast ahead of index", x.lay(0, 1, 9, 0), CAST);
        due("lay: finding", x.count(8), 3);
        due("lay: index", x.lay(0, 0, 2, 0), INDEX);
        due("lay: index", x.lay(0, 0, -1, 0), INDEX);
        due("lay: finding", x.count(8), 2);
        for (int odd : ODD) {
            due("lay: odd index", x.lay(0, 0, odd, 0), INDEX);
        }
    }

    private static void p35Get() {
        ProofDay x = new ProofDay();
        x.sheet(0, 1, 3);
        x.lay(0, 1, 2, -5);
        due("get", x.get(0, 1, 2), -5);
        due("get", x.get(0, 1, 0), 0);
        due("get: sheet", x.get(4, 1, 0), LEAST);
        due("get: sheet", x.get(-1, 1, 0), LEAST);
        due("get: form", x.get(0, 3, 0), LEAST);
        due("get: form", x.get(0, -1, 0), LEAST);
        due("get: no finding", x.count(8), 0);
        due("get: null", x.get(1, 0, 9), LEAST);
        due("get: finding", x.count(8), 1);
        due("get: cast ahead of index", x.get(0, 2, 9), LEAST);
        due("get: finding", x.count(8), 3);
        due("get: index", x.get(0, 1, 3), LEAST);
        due("get: finding", x.count(8), 2);
        due("get: bad changes no finding", x.get(7, 1, 3), LEAST);
        due("get: finding", x.count(8), 2);
        x.lose(1);
        due("get: index", x.get(0, 1, -1), LEAST);
        due("get: finding", x.count(8), 2);
    }

    private static void p36Copy() {
        ProofDay x = new ProofDay();
        x.sheet(0, 1, 5);
        x.sheet(1, 1, 3);
        x.sheet(2, 2, 3);
        layAll(x, 0, 1, 1, 2, 3, 4, 5);
        due("copy", x.copy(0, 2, 1, 0, 3), 1);
        due("copy: came", x.get(1, 1, 0) * 100 + x.get(1, 1, 1) * 10 + x.get(1, 1, 2), 345);
        due("copy: stayed", x.get(0, 1, 2), 3);
        due("copy: upwards as they were", x.copy(0, 0, 0, 1, 4), 1);
        int[] up = {1, 1, 2, 3, 4};
        for (int i = 0; i < 5; i++) {
            due("copy: item " + i, x.get(0, 1, i), up[i]);
        }
        due("copy: downwards", x.copy(0, 2, 0, 0, 3), 1);
        int[] down = {2, 3, 4, 3, 4};
        for (int i = 0; i < 5; i++) {
            due("copy: item " + i, x.get(0, 1, i), down[i]);
        }
        due("copy: none, at the ends", x.copy(0, 5, 1, 3, 0), 1);
        due("copy: no finding", x.count(8), 0);
        due("copy: sheets", x.copy(4, 0, 0, 0, 0), BAD);
        due("copy: sheets", x.copy(0, 0, 4, 0, 0), BAD);
        due("copy: sheets", x.copy(-1, 0, 0, 0, 0), BAD);
        due("copy: sheets", x.copy(0, 0, -1, 0, 0), BAD);
        due("copy: bad ahead of null", x.copy(3, 0, 4, 0, 0), BAD);
        due("copy: null", x.copy(3, 0, 0, 0, 0), NULL);
        due("copy: null", x.copy(0, 9, 3, 0, -1), NULL);
        due("copy: store ahead of index", x.copy(0, -1, 2, 9, 9), STORE);
        due("copy: finding", x.count(8), 4);
        int[][] wrongOnes = {
            {-1, 0, 1}, {0, -1, 1}, {0, 0, -1}, {3, 0, 3}, {0, 1, 3}, {6, 0, 0}, {0, 4, 0},
            {Integer.MAX_VALUE, 0, 1}, {0, Integer.MAX_VALUE, 1}, {0, 0, Integer.MAX_VALUE},
            {1, 1, Integer.MAX_VALUE}, {LEAST, 0, 0}, {0, LEAST, 0}, {0, 0, LEAST}
        };
        for (int[] w : wrongOnes) {
            due("copy: index " + w[0] + " " + w[1] + " " + w[2], x.copy(0, w[0], 1, w[1], w[2]), INDEX);
        }
        due("copy: finding", x.count(8), 2);
        due("copy: nothing came", x.get(1, 1, 0), 3);
    }

    private static void p37Write() {
        ProofDay x = day("l4;t9;d3", "q3;a9", "00;12;01");
        x.sheet(0, 0, 60);
        for (int i = 0; i < 60; i++) {
            x.lay(0, 0, i, 77);
        }
        due("write: ten at most", x.write(0), 10);
        due("write: line 0", x.get(0, 0, 0), 0);
        due("write: line 1", x.get(0, 0, 1), NONE);
        due("write: line 2", x.get(0, 0, 2), 1);
        due("write: of one that is not", x.get(0, 0, 3), NONE);
        due("write: of one that is not", x.get(0, 0, 9), NONE);
        due("write: no further", x.get(0, 0, 10), 77);
        x.sheet(1, 1, 2);
        due("write: as many as items", x.write(1), 2);
        due("write: short", x.get(1, 1, 1), NONE);
        x.sheet(1, 2, 0);
        due("write: no items", x.write(1), 0);
        due("write: bad", x.write(4), BAD);
        due("write: bad", x.write(-1), BAD);
        due("write: no finding", x.count(8), 0);
        due("write: null", x.write(3), NULL);
        due("write: finding", x.count(8), 1);
    }

    private static void p38Count() {
        ProofDay x = day("l4;t9;d3", "q3;a9", "00;12;01;5");
        x.event(0, 0, 0);
        x.seen(0, 0, 0);
        x.seen(0, 0, 0);
        int[] want = {3, 2, 0, 8, 5, 10, 1, 2, 0};
        for (int what = 0; what < want.length; what++) {
            due("count " + what, x.count(what), want[what]);
        }
        x.type(2, '5');
        due("count: shifts", x.count(2), 4);
        x.sheet(0, 0, -3);
        due("count: finding", x.count(8), 5);
        x.lose(0);
        due("count: the latest finding", x.count(8), 1);
        due("count: bad", x.count(9), BAD);
        due("count: bad", x.count(-1), BAD);
    }

    private static long digestByCalls(ProofDay x) {
        long h = 17;
        for (int what = 0; what <= 7; what++) {
            h = 31 * h + x.count(what);
        }
        for (int text = 0; text < 3; text++) {
            h = 31 * h + x.fault(text);
        }
        for (int i = 0; i < 16; i++) {
            h = 31 * (31 * h + x.shift(i, 0)) + x.shift(i, 1);
        }
        for (int i = 0; i < x.count(2); i++) {
            h = 31 * (31 * h + x.done(i, 0)) + x.done(i, 1);
        }
        for (int i = 0; i < x.count(0); i++) {
            long[] told = {
                x.line(i, 0), x.line(i, 1), x.line(i, 2), x.margin(i, 0), x.margin(i, 1), x.margin(i, 2),
                x.kind(i), x.chance(5, i, 0), x.chance(5, i, 1)
            };
            h = all(h, told);
        }
        for (int i = 0; i < x.count(1); i++) {
            long[] told = {
                x.reader(i, 0), x.reader(i, 1), x.night(i, 0), x.night(i, 1), x.night(i, 2), x.night(i, 3),
                x.keens(i), x.ask(i)
            };
            h = all(h, told);
        }
        for (int minute = 0; minute < 24; minute++) {
            h = 31 * h + x.marked(minute);
        }
        long[] rest = {
            x.harm(), x.worst(), x.left(0), x.left(1), x.more(0), x.more(1), x.more(2), x.late(),
            x.turn(0), x.turn(1), x.turn(2), x.hush(NONE), x.hush(0), x.never(), x.days(7, 12, 0), x.days(7, 12, 1)
        };
        return all(h, rest);
    }

    private static long all(long start, long[] told) {
        long h = start;
        for (long each : told) {
            h = 31 * h + each;
        }
        return h;
    }

    private static void p39Digest() {
        ProofDay x = new ProofDay();
        due("digest: new", x.digest(), digestByCalls(x));
        x = day("l4;t9;d3;l1", "q6;a5;o3", "00;12;01;23;13;22;02");
        x.event(0, 0, 0);
        x.event(1, 0, 1);
        x.event(0, 2, 1);
        x.seen(0, 0, 0);
        x.seen(1, 1, 1);
        due("digest: a day", x.digest(), digestByCalls(x));
        long before = x.digest();
        x.sheet(0, 0, 3);
        x.lose(1);
        due("digest: sheets are not in it", x.digest(), before);
        due("digest: no finding of its own", x.count(8), 1);
        x.type(1, ';');
        due("digest: a fault", x.digest(), digestByCalls(x));
        due("digest: another one", x.digest() == before ? 1 : 0, 0);
    }

    /** Every text is full: ten lines, six readers, sixteen shifts, eight events. */
    private static void fullDay() {
        String shifts = "00;11;22;33;44;55;06;17;28;39;40;51;02;13;24;39";
        ProofDay x = day("l1;l2;l3;l4;l5;l6;l7;l8;l9;t9", "q9;q9;q9;q9;q9;q1", shifts);
        for (int i = 0; i < 8; i++) {
            x.event(0, 3, 1);
        }
        due("full: lines", x.count(0), 10);
        due("full: readers", x.count(1), 6);
        due("full: shifts", x.count(2), 16);
        due("full: marked at once", x.marked(0), 6);
        due("full: marked", x.marked(1), 9);
        due("full: marked late", x.marked(2), 10);
        due("full: harm", x.harm(), 0);
        due("full: chance", x.chance(15, 9, 0), 1);
        x.undo(2);
        x.undo(2);
        x.undo(2);
        due("full: passed", x.left(1), 512);
        due("full: harm", x.harm(), 9);
        due("full: eight coughs", x.hush(NONE), NONE);
        due("full: chance above", x.chance(15, 9, 0), 1);
        due("full: chance below", x.chance(15, 9, 1), 4294967296L);
        due("full: more reader", x.more(0), 0);
        due("full: more line", x.more(1), 9);
        due("full: more harm", x.more(2), 0);
        // Shift 39 in place 0 comes ahead of 33, whose line reader 1 finds as well.
        due("full: turn first", x.turn(0), 0);
        due("full: turn other", x.turn(1), 9);
        due("full: turn harm", x.turn(2), 0);
        due("full: worst", x.worst(), 9);
        due("full: digest", x.digest(), digestByCalls(x));
    }
}
