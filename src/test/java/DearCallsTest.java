import java.util.Random;

/** Honey, smear, harm, quiet and stamps in small busy worlds, where more than zero and none is due, against the oracle. */
public final class DearCallsTest {
    private final Random random;
    private final SugarStamps x = new SugarStamps();
    private final Oracle o = new Oracle();
    private final StringBuilder texts = new StringBuilder();
    private int wrong = 0;
    private int telling = 0;

    private DearCallsTest(long seed) {
        random = new Random(seed);
    }

    public static void main(String[] args) {
        int worlds = args.length > 0 ? Integer.parseInt(args[0]) : 1500;
        int from = args.length > 1 ? Integer.parseInt(args[1]) : 1;
        int wrong = 0;
        int telling = 0;
        for (int seed = from; seed < from + worlds && wrong == 0; seed++) {
            DearCallsTest test = new DearCallsTest(seed);
            test.run();
            wrong += test.wrong;
            telling += test.telling;
            if (test.wrong > 0) System.out.println("seed " + seed + ", told were:" + test.texts);
        }
        System.out.println(worlds + " worlds, " + telling + " answers above 0, " + wrong + " not as the oracle has them");
        if (wrong > 0 || telling < worlds) System.exit(1);
    }

    private void run() {
        int n = 2 + random.nextInt(4);
        int files = 2 + random.nextInt(4);
        StringBuilder b = new StringBuilder("office " + n + ";fade " + random.nextInt(4));
        for (int i = random.nextInt(3); i > 0; i--) b.append(random.nextBoolean() ? ";stamps " : ";licks ").append(random.nextInt(n));
        if (random.nextInt(4) == 0) b.append(";winter ").append(random.nextInt(4));
        for (int i = n - 1 + random.nextInt(3); i > 0; i--) b.append(";trail ").append(pair(n)).append(random.nextInt(12));
        tell(b.toString());
        b = new StringBuilder("fade 1");
        for (int i = 0; i < files; i++) b.append(";file ").append(pair(n)).append(random.nextInt(7));
        tell(b.toString());
        askStamps(n, files);
        changeSome(n, files);
        askHoney(files);
        for (int f = 0; f < files; f++) askSmear(f, 1 + random.nextInt(20));
        for (int d = 0; d < n; d++) askHarm(d, n);
    }

    private String pair(int n) {
        int a = random.nextInt(n);
        return a + " " + (a + 1 + random.nextInt(n - 1)) % n + " ";
    }

    private void tell(String text) {
        texts.append(" '").append(text).append("'");
        for (int from = 0; from < text.length(); from += 8) {
            int n = Math.min(8, text.length() - from);
            long row = 0;
            for (int i = 0; i < n; i++) row |= (text.charAt(from + i) & 255L) << 8 * i;
            due("write", x.write(row, n), o.write(row, n));
        }
        due("office()", x.office(), o.office());
    }

    private void changeSome(int n, int files) {
        if (random.nextInt(3) == 0) {
            int queen = random.nextInt(n);
            due("sit(" + queen + ")", x.sit(queen), o.sit(queen));
        }
        if (random.nextInt(2) == 0) {
            int minutes = 1 + random.nextInt(2);
            due("go(" + minutes + ")", x.go(minutes), o.go(minutes));
        }
        if (random.nextInt(3) == 0) due("rain()", x.rain(), o.rain());
        if (random.nextInt(3) == 0) due("stamp(0, 0)", x.stamp(0, 0), o.stamp(0, 0));
    }

    private void askHoney(int files) {
        for (int set = 1; set < 1 << files; set++) {
            int size = Integer.bitCount(set);
            if (size > 2 && random.nextInt(size > 3 ? 150 : 20) > 0) continue;
            int minutes = 1 + random.nextInt(random.nextInt(3) == 0 ? 60 : 8);
            for (int i = -1; i <= size; i++) {
                due("honey(" + set + ", " + minutes + ", " + i + ")", x.honey(set, minutes, i), o.honey(set, minutes, i));
                if (size > 2 && x.honey(set, minutes, i) == -1) break;
            }
        }
    }

    private void askSmear(int file, int minutes) {
        if (random.nextInt(4) > 0) return;
        for (int what = 0; what < 3; what++) {
            due("smear(" + file + ", " + minutes + ", " + what + ")", x.smear(file, minutes, what), o.smear(file, minutes, what));
        }
    }

    private void askHarm(int desk, int n) {
        int minutes = 1 + random.nextInt(12);
        due("harm(" + desk + ", " + minutes + ")", x.harm(desk, minutes), o.harm(desk, minutes));
        due("worst(" + minutes + ")", x.worst(minutes), o.worst(minutes));
        for (int d = 0; d < n; d++) due("quiet(" + desk + ", " + d + ")", x.quiet(desk, d), o.quiet(desk, d));
    }

    private void askStamps(int n, int files) {
        for (int k = 0; k < 4; k++) {
            int f = random.nextInt(files);
            int t = random.nextInt(5);
            int d = random.nextInt(3) == 0 ? random.nextInt(n) : x.later(f, t, 0);
            due("seen(" + f + ", " + d + ", " + t + ")", x.seen(f, d, t), o.seen(f, d, t));
        }
        for (int f = 0; f < files; f++) due("stamps(" + f + ")", x.stamps(f), o.stamps(f));
    }

    private void due(String call, int got, int want) {
        if (want > 0) telling++;
        if (got == want) return;
        wrong++;
        System.out.println(call + " answered " + got + ", the oracle " + want);
    }
}
