import java.util.Arrays;

/**
 * Refused calls: what each answers, which refusal comes first where several fit, and that nothing has changed behind it.
 * Each call is made on an object of its own, which must then be as a twin that was not called.
 */
public final class RefusedTest {
    private static final int NEW = 0, BUSY = 1, FULL = 2, WINTER = 3, ALMOST = 4, FAULTY = 5;
    private static final String[] STATES = {"a new object", "a busy object", "a full object", "an object in winter", "an object almost full",
        "a busy object with a fault"};

    private static int wrong = 0;
    private static int asked = 0;

    public static void main(String[] args) {
        for (int state : new int[] {NEW, BUSY, FULL, WINTER}) {
            sameTwice(state);
            refused(state, "write", WRITE[state]);
            refused(state, "office", OFFICE[state]);
            refused(state, "desk, trail, file", TOLD[state]);
            refused(state, "as", AS[state]);
            refused(state, "go", GO[state]);
            refused(state, "next, sit, keep, back", SINGLE[state]);
            refused(state, "spill, stamp", POURED[state]);
            refused(state, "later", LATER[state]);
            refused(state, "filed, queue", QUEUE[state]);
            refused(state, "honey", HONEY[state]);
            refused(state, "smear", SMEAR[state]);
            refused(state, "quiet", QUIET[state]);
            refused(state, "harm, worst", HARM[state]);
            refused(state, "seen, stamps", SEEN[state]);
            refused(state, "crumbs, odds", CRUMBS[state]);
            refused(state, "count", "count(-1) OUTSIDE", "count(10) OUTSIDE", "count(MIN) OUTSIDE", "count(MAX) OUTSIDE");
        }
        // Not even a part of it is done, up to the bound.
        refused(ALMOST, "write, go", "write(0x6A6A6A6A6A6A, 6) FULL", "write(0x2020202020202020, 8) FULL", "go(3) FULL", "go(99) FULL");
        // A text with a fault is none: nothing is reset.
        refused(FAULTY, "office", "office() NOT");
        asksOnly();
        givesOnly();
        System.out.println(asked + " answers asked, " + wrong + " not as due");
        if (wrong != 0) System.exit(1);
    }

    /** Two desks, nothing else. */
    private static SugarStamps fresh() {
        return new SugarStamps();
    }

    /** Four desks, three trails, three files (file 0 is FILED); the queen sits, two are kept, three are seen, a text waits. */
    private static SugarStamps busy() {
        SugarStamps x = Due.told("office 4;licks 1;stamps 2;cellar 3;fade 0;winter 2;trail 0 3 9;trail 1 2 40;trail 2 1 7",
                "file 0 3 5;file 1 0 6;file 2 0 2");
        Due d = new Due("a busy object");
        Calls.due(d, x, "go(3) 3", "count(7) 1", "keep(0) 3", "spill(2, 60) 7", "rain() 3", "stamp(1, 9) 7", "sit(1) NONE");
        Calls.due(d, x, "go(1) 4", "keep(1) 4", "sit(2) 1", "seen(0, 0, 0) 1", "seen(0, 3, 3) 2", "seen(1, 2, 3) 3");
        Calls.due(d, x, "crumbs(0, 6) 0", "crumbs(2, 9) 0");
        Due.write(x, "fade 7");
        end(d);
        return x;
    }

    /** Everything up to its bound: desks, trails, files, minutes, SEEN, CRUMBS, the bytes of a text without a fault. */
    private static SugarStamps full() {
        SugarStamps x = Due.told("office 8;trail 0 1 9;trail 1 2 8;trail 2 3 7;trail 3 0 6;trail 0 2 5;trail 1 3 4;trail 4 5 3;"
                + "trail 5 6 2;trail 6 4 1;trail 0 4 0;trail 2 6 99",
                "trail 3 5 50;file 0 3 9;file 1 4 8;file 2 5 7;file 4 0 6;file 7 0 5;file 6 7 0");
        Due d = new Due("a full object");
        Calls.due(d, x, "keep(0) 0");
        for (int i = 1; i <= 101; i++) d.due("go(99)", x.go(99), 99 * i);
        Calls.due(d, x, "keep(1) 9999", "sit(7) NONE", "file(4, 4) NONE", "file(5, 4) NONE", "count(5) 9999");
        for (int i = 1; i <= 6; i++) d.due("seen", x.seen(i - 1, 0, 99), i);
        for (int desk = 0; desk < 8; desk++) d.due("crumbs", x.crumbs(desk, 99), 0);
        Due.write(x, "fade 0;licks 7;stamps 6;cellar 5;winter 99" + " ".repeat(158));
        Calls.due(d, x, "count(9) 200", "fault() NONE");
        end(d);
        return x;
    }

    /** Winter for another 95 minutes; nothing is kept, no crumbs; the text that waits has a fault. */
    private static SugarStamps wintry() {
        SugarStamps x = Due.told("winter 99;trail 0 1 50;file 0 1 9");
        Due d = new Due("an object in winter");
        Calls.due(d, x, "go(4) 4", "count(4) 95", "spill(0, 31) 46");
        Due.write(x, "fade 3;office 3;jam");
        Calls.due(d, x, "fault() 16");
        end(d);
        return x;
    }

    /** Two minutes, five bytes are left. */
    private static SugarStamps almost() {
        SugarStamps x = Due.told("office 3;fade 0;trail 0 1 9;trail 1 0 8;file 0 2 3");
        Due d = new Due("an object almost full");
        for (int i = 1; i <= 100; i++) d.due("go(99)", x.go(99), 99 * i);
        Calls.due(d, x, "go(97) 9997");
        Due.write(x, "fade 7" + " ".repeat(189));
        Calls.due(d, x, "count(9) 195", "fault() NONE");
        end(d);
        return x;
    }

    private static SugarStamps faulty() {
        SugarStamps x = busy();
        Due d = new Due("a busy object with a fault");
        Calls.due(d, x, "write(0x6D616A3B, 4) 10", "fault() 7");
        end(d);
        return x;
    }

    private static SugarStamps make(int state) {
        switch (state) {
            case BUSY: return busy();
            case FULL: return full();
            case WINTER: return wintry();
            case ALMOST: return almost();
            case FAULTY: return faulty();
            default: return fresh();
        }
    }

    private static void end(Due d) {
        wrong += d.wrong();
        asked += d.asked();
    }

    private static void sameTwice(int state) {
        Due d = new Due(STATES[state] + ", made twice");
        d.due("all answers, alike", Arrays.equals(all(make(state)), all(make(state))) ? 1 : 0, 1);
        end(d);
    }

    private static void refused(int state, String calls, String... rows) {
        Due d = new Due(STATES[state] + ", refused: " + calls);
        int[] twin = all(make(state));
        for (String row : rows) {
            SugarStamps x = make(state);
            Calls.due(d, x, row);
            d.due("all answers alike behind " + row, firstUnlike(all(x), twin), -1);
        }
        end(d);
    }

    private static int firstUnlike(int[] one, int[] other) {
        return Arrays.mismatch(one, other);
    }

    /** All that can be found out about an object, also what was kept and what its text tells: at the end it is another one. */
    private static int[] all(SugarStamps x) {
        Answers a = new Answers();
        state(a, x);
        for (int desk = 0; desk < 8; desk++) a.add(x.odds(desk, 0));
        a.add(x.odds(0, 1));
        for (int file = 0; file < 6; file++) a.add(x.stamps(file));
        for (int k = 0; k < 2; k++) {
            a.add(x.back(k));
            for (int what = 4; what < 8; what++) a.add(x.count(what));
            for (int trail = 0; trail < 12; trail++) a.add(x.trail(trail, 2));
            for (int file = 0; file < 6; file++) {
                a.add(x.file(file, 0));
                a.add(x.file(file, 2));
                a.add(x.file(file, 3));
            }
        }
        a.add(x.office());
        state(a, x);
        return a.row();
    }

    private static void state(Answers a, SugarStamps x) {
        for (int what = 0; what < 10; what++) a.add(x.count(what));
        a.add(x.fault());
        for (int desk = 0; desk < 8; desk++) {
            for (int what = 0; what < 2; what++) a.add(x.desk(desk, what));
        }
        for (int trail = 0; trail < 12; trail++) {
            for (int what = 0; what < 3; what++) a.add(x.trail(trail, what));
        }
        for (int file = 0; file < 6; file++) {
            for (int what = 0; what < 5; what++) a.add(x.file(file, what));
        }
    }

    private static final class Answers {
        private final int[] row = new int[512];
        private int n = 0;

        void add(int answer) {
            row[n++] = answer;
        }

        int[] row() {
            return Arrays.copyOf(row, n);
        }
    }

    /** Calls that only ask change nothing either, foretelling above all. */
    private static void asksOnly() {
        Due d = new Due("asking changes nothing");
        String[] calls = {"fault()", "desk(0, 1)", "trail(0, 2)", "file(0, 4)", "as(1, 2)", "next(1)", "later(1, 99, 0)", "later(1, 99, 1)",
            "later(1, 99, 2)", "filed(0)", "filed(1)", "queue(2, 99)", "honey(6, 60, NONE)", "honey(6, 1, 1)", "smear(1, 99, 0)",
            "smear(2, 99, 2)", "quiet(0, 3)", "harm(0, 99)", "harm(2, 99)", "worst(99)", "stamps(0)", "stamps(1)", "odds(2, 0)", "count(9)"};
        int[] twin = all(busy());
        for (String call : calls) {
            SugarStamps x = busy();
            int answer = Calls.answer(x, call);
            d.due(call + " again", Calls.answer(x, call), answer);
            d.due("all answers alike behind " + call, firstUnlike(all(x), twin), -1);
        }
        // Both are kept where they were though one of them was brought back; keep alone changes nothing that can be seen now.
        SugarStamps x = busy();
        Calls.due(d, x, "back(0) 3", "back(1) 4", "sit(2) 1");
        d.due("all answers alike behind back(0), back(1)", firstUnlike(all(x), twin), -1);
        end(d);
    }

    /** Honey and a smear that are found are not given. */
    private static void givesOnly() {
        Due d = new Due("asking gives nothing");
        String text = "trail 0 1 40;trail 0 1 50;file 0 1 0;file 0 1 5";
        int[] twin = all(Due.told(text));
        for (String row : new String[] {"honey(1, 1, NONE) 5", "honey(1, 1, 0) 5", "honey(3, 2, NONE) 1", "smear(1, 1, 2) 0", "stamps(0) 1023"}) {
            SugarStamps x = Due.told(text);
            Calls.due(d, x, row);
            d.due("all answers alike behind " + row, firstUnlike(all(x), twin), -1);
        }
        end(d);
    }

    private static final String[][] WRITE = {
        {"write(0, 0) OUTSIDE", "write(0, -1) OUTSIDE", "write(0, 9) OUTSIDE", "write(0, MIN) OUTSIDE", "write(0, MAX) OUTSIDE"},
        {"write(0, 0) OUTSIDE", "write(0, -1) OUTSIDE", "write(0, 9) OUTSIDE", "write(-1, MAX) OUTSIDE"},
        {"write(0, 1) FULL", "write(32, 1) FULL", "write(0, 8) FULL", "write(-1, 8) FULL",
            // OUTSIDE ahead of FULL.
            "write(0, 9) OUTSIDE", "write(0, 0) OUTSIDE", "write(0, -1) OUTSIDE", "write(0, MIN) OUTSIDE", "write(0, MAX) OUTSIDE"},
        {"write(0, 0) OUTSIDE", "write(0, 9) OUTSIDE"},
    };

    /** A text with a fault stays, also one whose first lines have none. */
    private static final String[][] OFFICE = {{"office() NOT"}, {}, {}, {"office() NOT"}};

    private static final String[][] TOLD = {
        {"desk(-1, 0) UNKNOWN", "desk(2, 0) UNKNOWN", "desk(MIN, 0) UNKNOWN", "desk(MAX, 0) UNKNOWN", "desk(0, -1) OUTSIDE",
            "desk(1, 3) OUTSIDE", "desk(0, MIN) OUTSIDE", "desk(1, MAX) OUTSIDE", "desk(2, 3) UNKNOWN", "desk(-1, -1) UNKNOWN",
            "trail(0, 0) UNKNOWN", "trail(-1, 0) UNKNOWN", "trail(0, 3) UNKNOWN", "file(0, 0) UNKNOWN", "file(-1, 0) UNKNOWN",
            "file(0, 5) UNKNOWN"},
        {"desk(4, 0) UNKNOWN", "desk(4, 3) UNKNOWN", "desk(3, 3) OUTSIDE", "desk(3, -1) OUTSIDE", "trail(3, 0) UNKNOWN",
            "trail(3, 3) UNKNOWN", "trail(-1, -1) UNKNOWN", "trail(2, 3) OUTSIDE", "trail(0, -1) OUTSIDE", "trail(2, MIN) OUTSIDE",
            "trail(2, MAX) OUTSIDE", "file(3, 0) UNKNOWN", "file(3, 5) UNKNOWN", "file(-1, -1) UNKNOWN", "file(2, 5) OUTSIDE",
            "file(0, -1) OUTSIDE", "file(2, MIN) OUTSIDE", "file(2, MAX) OUTSIDE"},
        {"desk(8, 0) UNKNOWN", "desk(-1, 2) UNKNOWN", "desk(7, 3) OUTSIDE", "trail(12, 0) UNKNOWN", "trail(-1, 2) UNKNOWN",
            "trail(11, 3) OUTSIDE", "trail(MIN, 0) UNKNOWN", "trail(MAX, 0) UNKNOWN", "file(6, 0) UNKNOWN", "file(-1, 4) UNKNOWN",
            "file(5, 5) OUTSIDE", "file(MIN, 0) UNKNOWN", "file(MAX, 0) UNKNOWN"},
        {"desk(2, 0) UNKNOWN", "trail(1, 0) UNKNOWN", "file(1, 0) UNKNOWN"},
    };

    private static final String[][] AS = {
        {"as(-1, 0) UNKNOWN", "as(2, 0) UNKNOWN", "as(2, 5) UNKNOWN", "as(-1, -1) UNKNOWN", "as(0, -1) OUTSIDE", "as(1, 5) OUTSIDE",
            "as(0, MIN) OUTSIDE", "as(0, MAX) OUTSIDE", "as(0, 2) NOT", "as(0, 3) NOT", "as(1, 4) NOT"},
        {"as(4, 4) UNKNOWN", "as(4, 5) UNKNOWN", "as(1, 3) NOT", "as(1, 4) NOT", "as(2, 2) NOT", "as(2, 4) NOT", "as(3, 1) NOT",
            "as(3, 2) NOT", "as(3, 3) NOT", "as(3, 5) OUTSIDE", "as(3, -1) OUTSIDE"},
        {"as(8, 0) UNKNOWN", "as(MIN, 0) UNKNOWN", "as(MAX, 0) UNKNOWN", "as(7, 2) NOT"},
        {},
    };

    private static final String[][] GO = {
        {"go(0) OUTSIDE", "go(-1) OUTSIDE", "go(100) OUTSIDE", "go(MIN) OUTSIDE", "go(MAX) OUTSIDE"},
        {"go(0) OUTSIDE", "go(100) OUTSIDE"},
        {"go(1) FULL", "go(2) FULL", "go(99) FULL", "go(0) OUTSIDE", "go(-1) OUTSIDE", "go(100) OUTSIDE", "go(MIN) OUTSIDE", "go(MAX) OUTSIDE"},
        {"go(0) OUTSIDE", "go(100) OUTSIDE"},
    };

    private static final String[][] SINGLE = {
        {"next(0) UNKNOWN", "next(-1) UNKNOWN", "sit(2) UNKNOWN", "sit(-2) UNKNOWN", "keep(-1) UNKNOWN", "keep(2) UNKNOWN",
            "back(-1) UNKNOWN", "back(2) UNKNOWN", "back(0) NOT", "back(1) NOT"},
        {"next(3) UNKNOWN", "next(-1) UNKNOWN", "sit(4) UNKNOWN", "sit(-2) UNKNOWN", "sit(MIN) UNKNOWN", "sit(MAX) UNKNOWN",
            "keep(-1) UNKNOWN", "keep(2) UNKNOWN", "keep(MIN) UNKNOWN", "keep(MAX) UNKNOWN", "back(-1) UNKNOWN", "back(2) UNKNOWN",
            "back(MIN) UNKNOWN", "back(MAX) UNKNOWN"},
        {"next(6) UNKNOWN", "next(MIN) UNKNOWN", "next(MAX) UNKNOWN", "sit(8) UNKNOWN", "sit(-2) UNKNOWN", "keep(2) UNKNOWN", "back(2) UNKNOWN"},
        {"next(1) UNKNOWN", "sit(2) UNKNOWN", "back(0) NOT", "back(1) NOT"},
    };

    private static final String[][] POURED = {
        {"spill(0, 0) UNKNOWN", "spill(0, 100) UNKNOWN", "spill(-1, -1) UNKNOWN", "stamp(0, 0) UNKNOWN", "stamp(0, 10) UNKNOWN", "stamp(-1, -1) UNKNOWN"},
        {"spill(3, 5) UNKNOWN", "spill(-1, 5) UNKNOWN", "spill(3, 100) UNKNOWN", "spill(2, -1) OUTSIDE", "spill(0, 100) OUTSIDE",
            "spill(0, MIN) OUTSIDE", "spill(0, MAX) OUTSIDE", "stamp(3, 5) UNKNOWN", "stamp(-1, 5) UNKNOWN", "stamp(3, 10) UNKNOWN",
            "stamp(1, -1) OUTSIDE", "stamp(2, 10) OUTSIDE", "stamp(1, MIN) OUTSIDE", "stamp(1, MAX) OUTSIDE",
            "stamp(0, 0) NOT", "stamp(0, 9) NOT", "stamp(0, -1) OUTSIDE", "stamp(0, 10) OUTSIDE"},
        {"spill(12, 0) UNKNOWN", "spill(MIN, 0) UNKNOWN", "spill(MAX, 0) UNKNOWN", "spill(11, 100) OUTSIDE", "stamp(6, 0) UNKNOWN",
            "stamp(MIN, 0) UNKNOWN", "stamp(MAX, 0) UNKNOWN", "stamp(5, 10) OUTSIDE"},
        {"spill(1, 0) UNKNOWN", "stamp(1, 0) UNKNOWN"},
    };

    /** Which of them there must be is told by what: so a wrong what comes ahead of UNKNOWN, a wrong t behind it. */
    private static final String[][] LATER = {
        {"later(0, 0, 0) UNKNOWN", "later(0, 0, 1) UNKNOWN", "later(0, 0, 2) UNKNOWN", "later(0, 0, 3) OUTSIDE", "later(0, 0, -1) OUTSIDE",
            "later(0, 100, 0) UNKNOWN", "later(0, -1, 2) UNKNOWN", "later(0, 100, 3) OUTSIDE"},
        {"later(3, 0, 0) UNKNOWN", "later(3, 0, 1) UNKNOWN", "later(3, 0, 2) UNKNOWN", "later(-1, 0, 0) UNKNOWN", "later(-1, 0, 2) UNKNOWN",
            "later(2, 100, 0) OUTSIDE", "later(2, -1, 1) OUTSIDE", "later(2, 100, 2) OUTSIDE", "later(2, MIN, 0) OUTSIDE",
            "later(2, MAX, 2) OUTSIDE", "later(2, 0, 3) OUTSIDE", "later(2, 0, MIN) OUTSIDE", "later(2, 0, MAX) OUTSIDE",
            "later(3, 100, 1) UNKNOWN", "later(3, 100, 2) UNKNOWN", "later(3, 0, 3) OUTSIDE", "later(-1, -1, -1) OUTSIDE"},
        {"later(6, 0, 0) UNKNOWN", "later(6, 0, 1) UNKNOWN", "later(12, 0, 2) UNKNOWN", "later(MAX, 0, 0) UNKNOWN", "later(MIN, 0, 2) UNKNOWN",
            "later(11, 100, 2) OUTSIDE", "later(11, 100, 0) UNKNOWN"},
        {"later(1, 0, 0) UNKNOWN", "later(1, 0, 2) UNKNOWN"},
    };

    private static final String[][] QUEUE = {
        {"filed(0) UNKNOWN", "filed(-1) UNKNOWN", "queue(2, 0) UNKNOWN", "queue(2, 100) UNKNOWN", "queue(0, 100) OUTSIDE", "queue(0, -1) OUTSIDE"},
        {"filed(3) UNKNOWN", "filed(-1) UNKNOWN", "queue(4, 0) UNKNOWN", "queue(-1, 0) UNKNOWN", "queue(4, 100) UNKNOWN",
            "queue(-1, -1) UNKNOWN", "queue(3, 100) OUTSIDE", "queue(3, -1) OUTSIDE", "queue(3, MIN) OUTSIDE", "queue(3, MAX) OUTSIDE"},
        {"filed(6) UNKNOWN", "filed(MIN) UNKNOWN", "filed(MAX) UNKNOWN", "queue(8, 0) UNKNOWN", "queue(MIN, 0) UNKNOWN", "queue(MAX, 0) UNKNOWN"},
        {"filed(1) UNKNOWN", "queue(1, 100) OUTSIDE"},
    };

    private static final String[][] HONEY = {
        {"honey(1, 1, NONE) UNKNOWN", "honey(1, 0, NONE) UNKNOWN", "honey(1, 1, -2) UNKNOWN", "honey(MIN, 1, 0) UNKNOWN",
            "honey(0, 0, NONE) OUTSIDE", "honey(0, 61, NONE) OUTSIDE", "honey(0, 1, -2) OUTSIDE"},
        {"honey(8, 1, NONE) UNKNOWN", "honey(14, 1, NONE) UNKNOWN", "honey(-1, 1, NONE) UNKNOWN", "honey(MIN, 1, NONE) UNKNOWN",
            "honey(MAX, 1, NONE) UNKNOWN", "honey(8, 0, -2) UNKNOWN", "honey(9, 1, NONE) UNKNOWN", "honey(31, 1, NONE) UNKNOWN",
            "honey(2, 0, NONE) OUTSIDE", "honey(2, 61, NONE) OUTSIDE", "honey(2, -1, NONE) OUTSIDE", "honey(2, MIN, NONE) OUTSIDE",
            "honey(2, MAX, NONE) OUTSIDE", "honey(2, 1, -2) OUTSIDE", "honey(2, 1, MIN) OUTSIDE",
            "honey(1, 1, NONE) NOT", "honey(7, 60, NONE) NOT", "honey(1, 1, 0) NOT", "honey(1, 1, 1) NOT", "honey(1, 1, MAX) NOT",
            "honey(1, 0, NONE) OUTSIDE", "honey(1, 61, NONE) OUTSIDE", "honey(1, 1, -2) OUTSIDE"},
        {"honey(64, 1, NONE) UNKNOWN", "honey(127, 1, NONE) UNKNOWN", "honey(127, 0, NONE) UNKNOWN", "honey(-1, 61, -2) UNKNOWN",
            "honey(31, 1, NONE) NOT", "honey(63, 60, 5) NOT", "honey(62, 60, MAX) NOT", "honey(63, 0, NONE) OUTSIDE", "honey(63, 61, NONE) OUTSIDE",
            "honey(63, 60, -2) OUTSIDE"},
        {"honey(2, 1, NONE) UNKNOWN"},
    };

    private static final String[][] SMEAR = {
        {"smear(0, 1, 0) UNKNOWN", "smear(0, 0, 0) UNKNOWN", "smear(0, 1, 3) UNKNOWN", "smear(-1, 100, -1) UNKNOWN"},
        {"smear(3, 1, 0) UNKNOWN", "smear(-1, 1, 0) UNKNOWN", "smear(3, 0, 3) UNKNOWN", "smear(1, 0, 0) OUTSIDE", "smear(1, 100, 0) OUTSIDE",
            "smear(1, MIN, 0) OUTSIDE", "smear(1, MAX, 0) OUTSIDE", "smear(1, 1, -1) OUTSIDE", "smear(1, 1, 3) OUTSIDE",
            "smear(1, 1, MIN) OUTSIDE", "smear(1, 1, MAX) OUTSIDE", "smear(0, 1, 0) NOT", "smear(0, 99, 2) NOT",
            "smear(0, 0, 0) OUTSIDE", "smear(0, 100, 0) OUTSIDE", "smear(0, 1, 3) OUTSIDE", "smear(0, 1, -1) OUTSIDE"},
        {"smear(6, 1, 0) UNKNOWN", "smear(MIN, 1, 0) UNKNOWN", "smear(MAX, 1, 0) UNKNOWN", "smear(5, 100, 0) OUTSIDE"},
        {"smear(1, 1, 0) UNKNOWN"},
    };

    private static final String[][] QUIET = {
        {"quiet(2, 0) UNKNOWN", "quiet(0, 2) UNKNOWN", "quiet(-1, 0) UNKNOWN", "quiet(0, -1) UNKNOWN", "quiet(2, 2) UNKNOWN"},
        {"quiet(4, 4) UNKNOWN", "quiet(3, 4) UNKNOWN", "quiet(4, 3) UNKNOWN", "quiet(-1, -1) UNKNOWN"},
        {"quiet(8, 0) UNKNOWN", "quiet(0, 8) UNKNOWN", "quiet(MIN, 0) UNKNOWN", "quiet(0, MIN) UNKNOWN", "quiet(MAX, 0) UNKNOWN", "quiet(0, MAX) UNKNOWN"},
        {},
    };

    private static final String[][] HARM = {
        {"harm(2, 1) UNKNOWN", "harm(-1, 1) UNKNOWN", "harm(2, 0) UNKNOWN", "harm(0, 0) OUTSIDE", "harm(0, 100) OUTSIDE", "worst(0) OUTSIDE", "worst(100) OUTSIDE"},
        {"harm(4, 1) UNKNOWN", "harm(-1, 0) UNKNOWN", "harm(4, 100) UNKNOWN", "harm(3, 0) OUTSIDE", "harm(3, 100) OUTSIDE", "harm(3, MIN) OUTSIDE",
            "harm(3, MAX) OUTSIDE", "worst(-1) OUTSIDE", "worst(0) OUTSIDE", "worst(100) OUTSIDE", "worst(MIN) OUTSIDE", "worst(MAX) OUTSIDE"},
        {"harm(8, 1) UNKNOWN", "harm(MIN, 1) UNKNOWN", "harm(MAX, 1) UNKNOWN"},
        {},
    };

    private static final String[][] SEEN = {
        {"seen(0, 0, 0) UNKNOWN", "seen(0, 0, 100) UNKNOWN", "seen(0, 2, 0) UNKNOWN", "stamps(0) UNKNOWN", "stamps(-1) UNKNOWN"},
        {"seen(3, 0, 0) UNKNOWN", "seen(-1, 0, 0) UNKNOWN", "seen(0, 4, 0) UNKNOWN", "seen(0, -1, 0) UNKNOWN", "seen(3, 4, 0) UNKNOWN",
            "seen(3, 0, 100) UNKNOWN", "seen(0, 4, 100) UNKNOWN", "seen(2, 3, -1) OUTSIDE", "seen(2, 3, 100) OUTSIDE", "seen(2, 3, MIN) OUTSIDE",
            "seen(2, 3, MAX) OUTSIDE", "stamps(3) UNKNOWN", "stamps(-1) UNKNOWN"},
        {"seen(0, 0, 0) FULL", "seen(0, 0, 99) FULL", "seen(5, 7, 99) FULL", "seen(6, 0, 0) UNKNOWN", "seen(0, 8, 0) UNKNOWN",
            "seen(0, 0, 100) OUTSIDE", "seen(0, 0, -1) OUTSIDE", "seen(6, 8, 100) UNKNOWN", "seen(MIN, 0, 0) UNKNOWN", "seen(0, MAX, 0) UNKNOWN",
            "stamps(6) UNKNOWN", "stamps(MIN) UNKNOWN", "stamps(MAX) UNKNOWN"},
        {"seen(1, 0, 0) UNKNOWN", "seen(0, 0, 100) OUTSIDE", "stamps(1) UNKNOWN"},
    };

    private static final String[][] CRUMBS = {
        {"crumbs(2, 0) UNKNOWN", "crumbs(-1, 0) UNKNOWN", "crumbs(2, 100) UNKNOWN", "crumbs(1, -1) OUTSIDE", "crumbs(1, 100) OUTSIDE",
            "odds(0, 0) NOT", "odds(1, 1) NOT", "odds(2, 0) UNKNOWN", "odds(-1, 1) UNKNOWN", "odds(2, 2) UNKNOWN", "odds(0, 2) OUTSIDE", "odds(0, -1) OUTSIDE"},
        {"crumbs(4, 5) UNKNOWN", "crumbs(-1, 5) UNKNOWN", "crumbs(4, 100) UNKNOWN", "crumbs(-1, -1) UNKNOWN", "crumbs(3, -1) OUTSIDE",
            "crumbs(3, 100) OUTSIDE", "crumbs(0, MIN) OUTSIDE", "crumbs(0, MAX) OUTSIDE", "odds(4, 0) UNKNOWN", "odds(4, 2) UNKNOWN",
            "odds(0, -1) OUTSIDE", "odds(0, 2) OUTSIDE", "odds(0, MIN) OUTSIDE", "odds(0, MAX) OUTSIDE"},
        {"crumbs(8, 0) UNKNOWN", "crumbs(MIN, 0) UNKNOWN", "crumbs(MAX, 0) UNKNOWN", "odds(8, 0) UNKNOWN", "odds(MIN, 0) UNKNOWN", "odds(MAX, 0) UNKNOWN"},
        {"crumbs(0, 100) OUTSIDE", "odds(0, 0) NOT", "odds(1, 1) NOT", "odds(0, 2) OUTSIDE", "odds(2, 0) UNKNOWN"},
    };
}
