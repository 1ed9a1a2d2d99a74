import java.util.Random;

/** Random runs of calls, the same ones each time, on the program and on the oracle: every answer must be alike. */
public final class RandomRunsTest {
    private static final int CALLS = 512;
    private static final String[] WORDS = {"office", "plain", "licks", "stamps", "cellar", "trail", "file", "fade", "winter"};
    private static final String[] ODD = {"jam", "trails", "T", "100", "007", "-", ";", ";;", "\t", "\u00ff", "\u0000", "x1", "12"};

    private final Random random;
    private final SugarStamps x = new SugarStamps();
    private final Oracle o = new Oracle();
    private final StringBuilder story = new StringBuilder();
    private int calls = 0;

    private RandomRunsTest(long seed) {
        random = new Random(seed);
    }

    public static void main(String[] args) {
        int runs = args.length > 0 ? Integer.parseInt(args[0]) : 150;
        int from = args.length > 1 ? Integer.parseInt(args[1]) : 1;
        for (int seed = from; seed < from + runs; seed++) {
            String wrong = new RandomRunsTest(seed).run();
            if (wrong == null) continue;
            System.out.println("seed " + seed + ": " + wrong);
            System.exit(1);
        }
        System.out.println(runs + " runs of " + CALLS + " calls are as the oracle has them");
    }

    private String run() {
        boolean wild = random.nextInt(4) == 0;
        String wrong = null;
        while (calls < CALLS && wrong == null) {
            if (random.nextInt(calls == 0 ? 1 : 60) == 0) wrong = tellWorld(wild);
            else if (random.nextInt(25) == 0) wrong = tell(randomText(wild));
            else wrong = call();
        }
        return wrong;
    }

    /** A world in which something goes on: some desks, trails and files. */
    private String tellWorld(boolean wild) {
        int n = 2 + random.nextInt(7);
        StringBuilder b = new StringBuilder("office " + n);
        for (int i = random.nextInt(4); i > 0; i--) b.append(";").append(WORDS[1 + random.nextInt(4)]).append(number(n));
        if (random.nextInt(2) == 0) b.append(";fade ").append(random.nextInt(random.nextBoolean() ? 3 : 10));
        if (random.nextInt(5) == 0) b.append(";winter ").append(random.nextInt(random.nextBoolean() ? 6 : 99));
        String wrong = tell(b.toString());
        for (int part = 0; part < 2 && wrong == null; part++) {
            StringBuilder c = new StringBuilder("plain " + random.nextInt(n));
            for (int i = 1 + random.nextInt(6); i > 0; i--) c.append(";trail").append(pair(n)).append(number(random.nextBoolean() ? 4 : 100));
            for (int i = 1 + random.nextInt(3); i > 0; i--) c.append(";file").append(pair(n)).append(number(10));
            wrong = tell(c.toString());
        }
        return wrong;
    }

    private String number(int below) {
        int v = random.nextInt(below);
        return (random.nextInt(8) == 0 ? "  " : " ") + (v < 10 && random.nextInt(9) == 0 ? "0" : "") + v;
    }

    private String pair(int n) {
        int a = random.nextInt(n);
        int b = (a + 1 + random.nextInt(n - 1)) % n;
        return " " + a + " " + b;
    }

    private String randomText(boolean wild) {
        int n = x.count(0);
        StringBuilder b = new StringBuilder();
        for (int lines = random.nextInt(wild ? 14 : 4); lines >= 0; lines--) {
            String word = WORDS[1 + random.nextInt(8)];
            if (random.nextInt(12) == 0) word = "office";
            b.append(word);
            if (word.equals("trail") || word.equals("file")) b.append(pair(n)).append(number(random.nextInt(9) == 0 ? 102 : 10));
            else b.append(random.nextInt(6) == 0 ? "" : " ").append(random.nextInt(word.equals("fade") ? 10 : random.nextInt(9) == 0 ? 105 : n));
            if (random.nextInt(wild ? 8 : 60) == 0) b.append(random.nextBoolean() ? " " : "").append(ODD[random.nextInt(ODD.length)]);
            if (lines > 0) b.append(random.nextInt(5) == 0 ? " ; " : ";");
        }
        if (random.nextInt(30) == 0) b.setLength(random.nextInt(b.length() + 1));
        return b.toString();
    }

    private String tell(String text) {
        String wrong = null;
        for (int from = 0; from < text.length() && wrong == null; from += 8) {
            int n = Math.min(8, text.length() - from);
            long row = 0;
            for (int i = 0; i < n; i++) row |= (text.charAt(from + i) & 255L) << 8 * i;
            wrong = alike("write(" + row + "L, " + n + ")", x.write(row, n), o.write(row, n));
        }
        if (wrong == null) wrong = alike("fault()", x.fault(), o.fault());
        if (wrong == null) wrong = alike("office()", x.office(), o.office());
        if (wrong == null && x.count(9) > 0 && random.nextInt(4) > 0) wrong = alike("erase()", x.erase(), o.erase());
        return wrong == null ? all() : wrong;
    }

    /** All that can be asked about now; these calls are not told in the story. */
    private String all() {
        String wrong = null;
        for (int what = -1; what <= 10; what++) wrong = first(wrong, "count(" + what + ")", x.count(what), o.count(what));
        for (int what = 0; what < 5; what++) {
            for (int i = 0; i < 12; i++) {
                if (i < 8) wrong = first(wrong, "desk(" + i + ", " + what + ")", x.desk(i, what), o.desk(i, what));
                wrong = first(wrong, "trail(" + i + ", " + what + ")", x.trail(i, what), o.trail(i, what));
                if (i < 6) wrong = first(wrong, "file(" + i + ", " + what + ")", x.file(i, what), o.file(i, what));
                if (i < 6) wrong = first(wrong, "next(" + i + ")", x.next(i), o.next(i));
            }
        }
        return wrong;
    }

    private String first(String wrong, String call, int got, int want) {
        if (wrong != null || got == want) return wrong;
        return story + "\n" + call + " answered " + got + ", the oracle " + want;
    }

    private String alike(String call, int got, int want) {
        calls++;
        story.append("\n").append(call).append(" ").append(got);
        return first(null, call, got, want);
    }

    /** A number mostly below a bound, now and then out of it. */
    private int some(int below) {
        int dice = random.nextInt(60);
        if (dice == 0) return -1;
        if (dice == 1) return below;
        if (dice == 2) return random.nextInt();
        return below < 1 ? 0 : random.nextInt(below);
    }

    private String call() {
        int d = some(x.count(0));
        int t = some(x.count(1));
        int f = some(x.count(2));
        String wrong = switch (random.nextInt(25)) {
            case 0 -> alike("as(" + d + ")", asAll(d, true), asAll(d, false));
            case 1, 2 -> go();
            case 3 -> spill(t, some(100));
            case 4 -> stamp(f, some(10));
            case 5 -> random.nextInt(3) == 0 ? alike("rain()", x.rain(), o.rain()) : null;
            case 6 -> sit(random.nextBoolean() ? -1 : d);
            case 7 -> keepOrBack(some(2));
            case 8, 9 -> later(random.nextBoolean() ? f : t, some(100), some(3));
            case 10, 11 -> alike("filed(" + f + ")", x.filed(f), o.filed(f));
            case 12 -> queue(d, some(100));
            case 13, 14 -> honey();
            case 15 -> random.nextInt(4) == 0 ? smear(f, 1 + some(99), some(3)) : null;
            case 16 -> quiet(d, some(x.count(0)));
            case 17, 18 -> harm(d, 1 + some(random.nextBoolean() ? 99 : 9));
            case 19 -> seen(f, d, some(random.nextBoolean() ? 100 : 6));
            case 20 -> alike("stamps(" + f + ")", x.stamps(f), o.stamps(f));
            case 21 -> random.nextInt(5) == 0 ? alike("forget()", x.forget(), o.forget()) : null;
            case 22 -> crumbs(d, some(100));
            case 23 -> odds(d, some(2));
            default -> seenAsItWas(f);
        };
        return wrong == null ? all() : wrong;
    }

    private int asAll(int desk, boolean program) {
        int sum = 0;
        for (int kind = -1; kind < 6; kind++) sum = 31 * sum + (program ? x.as(desk, kind) : o.as(desk, kind));
        return sum;
    }

    private String go() {
        int n = random.nextInt(3) > 0 ? 1 : random.nextInt(3) > 0 ? 1 + some(5) : 1 + some(99);
        return alike("go(" + n + ")", x.go(n), o.go(n));
    }

    private String spill(int t, int v) {
        return alike("spill(" + t + ", " + v + ")", x.spill(t, v), o.spill(t, v));
    }

    private String stamp(int f, int v) {
        return alike("stamp(" + f + ", " + v + ")", x.stamp(f, v), o.stamp(f, v));
    }

    private String sit(int d) {
        return alike("sit(" + d + ")", x.sit(d), o.sit(d));
    }

    private String keepOrBack(int k) {
        if (random.nextBoolean()) return alike("keep(" + k + ")", x.keep(k), o.keep(k));
        return alike("back(" + k + ")", x.back(k), o.back(k));
    }

    private String later(int which, int t, int what) {
        return alike("later(" + which + ", " + t + ", " + what + ")", x.later(which, t, what), o.later(which, t, what));
    }

    private String queue(int d, int t) {
        return alike("queue(" + d + ", " + t + ")", x.queue(d, t), o.queue(d, t));
    }

    private String honey() {
        int set = random.nextInt(40) == 0 ? random.nextInt() : random.nextInt(1 << x.count(2));
        // The oracle tries all rows: sets of four are dear, and so are rare.
        if (Integer.bitCount(set) == 4 && random.nextInt(12) > 0 || Integer.bitCount(set) == 3 && random.nextInt(3) > 0) return null;
        int minutes = 1 + some(random.nextBoolean() ? 60 : 12);
        String wrong = null;
        for (int i = random.nextInt(30) == 0 ? -2 : -1; i < 4 && wrong == null; i++) {
            wrong = alike("honey(" + set + ", " + minutes + ", " + i + ")", x.honey(set, minutes, i), o.honey(set, minutes, i));
            if (Integer.bitCount(set) > 2 && random.nextInt(3) == 0) break;
        }
        return wrong;
    }

    private String smear(int f, int minutes, int what) {
        return alike("smear(" + f + ", " + minutes + ", " + what + ")", x.smear(f, minutes, what), o.smear(f, minutes, what));
    }

    private String quiet(int a, int b) {
        return alike("quiet(" + a + ", " + b + ")", x.quiet(a, b), o.quiet(a, b));
    }

    private String harm(int d, int minutes) {
        String wrong = alike("harm(" + d + ", " + minutes + ")", x.harm(d, minutes), o.harm(d, minutes));
        return wrong != null ? wrong : alike("worst(" + minutes + ")", x.worst(minutes), o.worst(minutes));
    }

    private String seen(int f, int d, int t) {
        return alike("seen(" + f + ", " + d + ", " + t + ")", x.seen(f, d, t), o.seen(f, d, t));
    }

    /** Sees a file where it is now, so that stamps may be found. */
    private String seenAsItWas(int f) {
        return x.count(5) > 99 ? null : seen(f, x.file(f, 0), x.count(5));
    }

    private String crumbs(int d, int n) {
        return alike("crumbs(" + d + ", " + n + ")", x.crumbs(d, n), o.crumbs(d, n));
    }

    private String odds(int d, int part) {
        return alike("odds(" + d + ", " + part + ")", x.odds(d, part), o.odds(d, part));
    }
}
