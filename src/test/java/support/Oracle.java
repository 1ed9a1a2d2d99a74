import java.math.BigInteger;
import java.nio.charset.StandardCharsets;
import java.util.ArrayList;
import java.util.Comparator;
import java.util.HashMap;
import java.util.List;
import java.util.Map;
import java.util.TreeSet;
import java.util.regex.Matcher;
import java.util.regex.Pattern;

/** The document once more, plain and slow, written apart from the program: every row of honey, every smear is tried to its end. */
final class Oracle {
    private static final int NONE = -1, UNKNOWN = -2, OUTSIDE = -3, NOT = -4, FULL = -5;
    private static final Pattern TOKEN = Pattern.compile("[a-z]+|[0-9]+|[^ ]", Pattern.DOTALL);

    private static final class Trail {
        int a, b, scent;

        Trail(int a, int b, int scent) {
            this.a = a;
            this.b = b;
            this.scent = scent;
        }

        boolean touches(int desk) {
            return a == desk || b == desk;
        }
    }

    private static final class File {
        int desk, end, sweet, came = NONE, filed = NONE;

        File(int desk, int end, int sweet) {
            this.desk = desk;
            this.end = end;
            this.sweet = sweet;
        }

        File copy() {
            File c = new File(desk, end, sweet);
            c.came = came;
            c.filed = filed;
            return c;
        }
    }

    private static final class World {
        List<String> kinds = new ArrayList<>(List.of("plain", "plain"));
        List<Trail> trails = new ArrayList<>();
        List<File> files = new ArrayList<>();
        int fade = 1, winter = 0, minutes = 0, queen = NONE;

        World copy() {
            World w = new World();
            w.kinds = new ArrayList<>(kinds);
            for (Trail t : trails) w.trails.add(new Trail(t.a, t.b, t.scent));
            for (File f : files) w.files.add(f.copy());
            w.fade = fade;
            w.winter = winter;
            w.minutes = minutes;
            w.queen = queen;
            return w;
        }

        World after(int n) {
            World w = copy();
            for (int i = 0; i < n; i++) w.minute();
            return w;
        }

        /** File to trail, of the minute that comes. */
        Map<Integer, Integer> carried() {
            Map<Integer, Integer> by = new HashMap<>();
            if (winter > 0) return by;
            for (int d = 0; d < kinds.size(); d++) {
                if (kinds.get(d).equals("cellar") || queen == d) continue;
                List<Integer> here = new ArrayList<>();
                for (int f = 0; f < files.size(); f++) {
                    File file = files.get(f);
                    if (file.desk == d && file.filed == NONE && file.sweet > 0) here.add(f);
                }
                here.sort(Comparator.comparingInt((Integer f) -> -files.get(f).sweet).thenComparingInt(f -> f));
                List<Integer> ways = new ArrayList<>();
                for (int t = 0; t < trails.size(); t++) if (trails.get(t).touches(d)) ways.add(t);
                if (here.isEmpty() || ways.isEmpty()) continue;
                int file = here.get(0);
                if (ways.size() > 1) ways.remove((Integer) files.get(file).came);
                ways.sort(Comparator.comparingInt((Integer t) -> -trails.get(t).scent).thenComparingInt(t -> t));
                by.put(file, ways.get(0));
            }
            return by;
        }

        void minute() {
            Map<Integer, Integer> by = carried();
            if (winter > 0) winter--;
            for (int t = 0; t < trails.size(); t++) {
                Trail trail = trails.get(t);
                int more = 0;
                for (int f : by.keySet()) if (by.get(f) == t) more += files.get(f).sweet;
                trail.scent = Math.min(99, trail.scent + more);
                trail.scent = Math.max(0, trail.scent - fade);
            }
            for (int f : by.keySet()) {
                File file = files.get(f);
                Trail trail = trails.get(by.get(f));
                file.came = by.get(f);
                file.desk = trail.a + trail.b - file.desk;
                if (kinds.get(file.desk).equals("licks")) file.sweet--;
                if (kinds.get(file.desk).equals("stamps") && file.sweet < 9) file.sweet++;
                if (file.desk == file.end) file.filed = minutes;
            }
            minutes++;
        }

        int filedBits() {
            int bits = 0;
            for (int f = 0; f < files.size(); f++) if (files.get(f).filed != NONE) bits |= 1 << f;
            return bits;
        }
    }

    private String text = "";
    private World told = new World();
    private World now = new World();
    private final World[] kept = new World[2];
    private final List<int[]> sightings = new ArrayList<>();
    private int[] crumbs = new int[8];

    /** The lines of the text on top of what is told, or the fault's place. */
    private static final class Reading {
        World world;
        int fault = NONE, lines = 0;
    }

    private Reading read() {
        Reading r = new Reading();
        r.world = told.copy();
        List<String> tokens = new ArrayList<>();
        List<Integer> places = new ArrayList<>();
        Matcher m = TOKEN.matcher(text);
        while (m.find()) {
            tokens.add(m.group());
            places.add(m.start());
        }
        places.add(text.length());
        tokens.add("");
        int i = 0;
        while (true) {
            World w = r.world;
            String word = tokens.get(i);
            int[][] bounds = boundsOf(word, w);
            if (bounds == null) return faultAt(r, places.get(i));
            i++;
            int[] got = new int[bounds.length];
            for (int k = 0; k < bounds.length; k++, i++) {
                String number = tokens.get(i);
                if (!number.matches("[0-9]{1,2}")) return faultAt(r, places.get(i));
                got[k] = Integer.parseInt(number);
                if (got[k] < bounds[k][0] || got[k] > bounds[k][1]) return faultAt(r, places.get(i));
                if (bounds.length == 3 && k == 1 && got[1] == got[0]) return faultAt(r, places.get(i));
            }
            r.world = done(word, got, w);
            r.lines++;
            if (i == tokens.size() - 1) return r;
            if (!tokens.get(i).equals(";") || r.lines == 12) return faultAt(r, places.get(i));
            i++;
        }
    }

    private static Reading faultAt(Reading r, int place) {
        r.fault = place;
        return r;
    }

    private static int[][] boundsOf(String word, World w) {
        int[] desk = {0, w.kinds.size() - 1};
        return switch (word) {
            case "office" -> new int[][] {{2, 8}};
            case "plain", "licks", "stamps", "cellar" -> new int[][] {desk};
            case "trail" -> w.trails.size() == 12 ? null : new int[][] {desk, desk, {0, 99}};
            case "file" -> w.files.size() == 6 ? null : new int[][] {desk, desk, {0, 9}};
            case "fade" -> new int[][] {{0, 9}};
            case "winter" -> new int[][] {{0, 99}};
            default -> null;
        };
    }

    private static World done(String word, int[] got, World w) {
        switch (word) {
            case "office" -> {
                World fresh = new World();
                fresh.kinds.clear();
                for (int d = 0; d < got[0]; d++) fresh.kinds.add("plain");
                return fresh;
            }
            case "trail" -> w.trails.add(new Trail(got[0], got[1], got[2]));
            case "file" -> w.files.add(new File(got[0], got[1], got[2]));
            case "fade" -> w.fade = got[0];
            case "winter" -> w.winter = got[0];
            default -> w.kinds.set(got[0], word);
        }
        return w;
    }

    int write(long bytes, int n) {
        if (n < 1 || n > 8) return OUTSIDE;
        if (text.length() + n > 200) return FULL;
        byte[] row = new byte[n];
        for (int i = 0; i < n; i++) row[i] = (byte) (bytes >>> 8 * i);
        text += new String(row, StandardCharsets.ISO_8859_1);
        return text.length();
    }

    int erase() {
        int n = text.length();
        text = "";
        return n;
    }

    int fault() {
        return read().fault;
    }

    int office() {
        Reading r = read();
        if (r.fault != NONE) return NOT;
        text = "";
        told = r.world;
        now = told.copy();
        kept[0] = null;
        kept[1] = null;
        sightings.clear();
        crumbs = new int[8];
        return r.lines;
    }

    private boolean noDesk(int d) {
        return d < 0 || d >= now.kinds.size();
    }

    private boolean noTrail(int t) {
        return t < 0 || t >= now.trails.size();
    }

    private boolean noFile(int f) {
        return f < 0 || f >= now.files.size();
    }

    int desk(int d, int what) {
        if (noDesk(d)) return UNKNOWN;
        if (what == 0) return List.of("plain", "licks", "stamps", "cellar").indexOf(now.kinds.get(d));
        if (what == 1) {
            int bits = 0;
            for (int f = 0; f < now.files.size(); f++) if (now.files.get(f).desk == d) bits += 1 << f;
            return bits;
        }
        if (what == 2) return (int) now.trails.stream().filter(t -> t.touches(d)).count();
        return OUTSIDE;
    }

    int trail(int t, int what) {
        if (noTrail(t)) return UNKNOWN;
        Trail x = now.trails.get(t);
        return what == 0 ? x.a : what == 1 ? x.b : what == 2 ? x.scent : OUTSIDE;
    }

    int file(int f, int what) {
        if (noFile(f)) return UNKNOWN;
        if (what < 0 || what > 4) return OUTSIDE;
        File x = now.files.get(f);
        return new int[] {x.desk, x.end, x.sweet, x.came, x.filed}[what];
    }

    int as(int d, int kind) {
        if (noDesk(d)) return UNKNOWN;
        if (kind < 0 || kind > 4) return OUTSIDE;
        List<Integer> kinds = switch (now.kinds.get(d)) {
            case "plain" -> List.of(0, 1);
            case "licks" -> List.of(0, 1, 2);
            case "stamps" -> List.of(0, 1, 3);
            default -> List.of(0, 4);
        };
        if (!kinds.contains(kind)) return NOT;
        return kinds.contains(2) ? 4 : kinds.contains(3) ? 6 : 5;
    }

    int go(int n) {
        if (n < 1 || n > 99) return OUTSIDE;
        if (now.minutes + n > 9999) return FULL;
        now = now.after(n);
        return now.minutes;
    }

    int next(int f) {
        if (noFile(f)) return UNKNOWN;
        return now.carried().getOrDefault(f, NONE);
    }

    int spill(int t, int v) {
        if (noTrail(t)) return UNKNOWN;
        if (v < 0 || v > 99) return OUTSIDE;
        int was = now.trails.get(t).scent;
        now.trails.get(t).scent = v;
        return was;
    }

    int stamp(int f, int v) {
        if (noFile(f)) return UNKNOWN;
        if (v < 0 || v > 9) return OUTSIDE;
        if (now.files.get(f).filed != NONE) return NOT;
        int was = now.files.get(f).sweet;
        now.files.get(f).sweet = v;
        return was;
    }

    int rain() {
        int n = 0;
        for (Trail t : now.trails) {
            t.scent = t.scent >> 1;
            n += t.scent == 0 ? 0 : 1;
        }
        return n;
    }

    int sit(int d) {
        if (d != NONE && noDesk(d)) return UNKNOWN;
        int was = now.queen;
        now.queen = d;
        return was;
    }

    int keep(int k) {
        if (k != 0 && k != 1) return UNKNOWN;
        kept[k] = now.copy();
        return now.minutes;
    }

    int back(int k) {
        if (k != 0 && k != 1) return UNKNOWN;
        if (kept[k] == null) return NOT;
        now = kept[k].copy();
        return now.minutes;
    }

    int later(int which, int t, int what) {
        if (what < 0 || what > 2) return OUTSIDE;
        if (what == 2 && noTrail(which) || what != 2 && noFile(which)) return UNKNOWN;
        if (t < 0 || t > 99) return OUTSIDE;
        World w = now.after(t);
        return what == 0 ? w.files.get(which).desk : what == 1 ? w.files.get(which).sweet : w.trails.get(which).scent;
    }

    int filed(int f) {
        if (noFile(f)) return UNKNOWN;
        return now.after(200).files.get(f).filed;
    }

    int queue(int d, int t) {
        if (noDesk(d)) return UNKNOWN;
        if (t < 0 || t > 99) return OUTSIDE;
        return (int) now.after(t).files.stream().filter(f -> f.desk == d && f.filed == NONE).count();
    }

    int honey(int set, int minutes, int i) {
        List<Integer> members = new ArrayList<>();
        for (int f = 0; f < 32; f++) if ((set >>> f & 1) == 1) members.add(f);
        for (int f : members) if (noFile(f)) return UNKNOWN;
        if (minutes < 1 || minutes > 60 || i < NONE) return OUTSIDE;
        if (members.size() > 4) return NOT;
        for (int f : members) if (now.files.get(f).filed != NONE) return NOT;
        if (i >= members.size()) return NONE;
        int[] row = bestRow(members, minutes);
        if (row == null) return NONE;
        int sum = 0;
        for (int more : row) sum += more;
        return i == NONE ? sum : row[i];
    }

    /** All rows in their order; a later one is taken only if it is less all together. */
    private int[] bestRow(List<Integer> members, int minutes) {
        int[] best = null;
        int bestSum = Integer.MAX_VALUE;
        int rows = (int) Math.pow(10, members.size());
        for (int number = 0; number < rows; number++) {
            int[] row = new int[members.size()];
            int rest = number;
            int sum = 0;
            boolean fits = true;
            for (int k = row.length - 1; k >= 0; k--, rest /= 10) {
                row[k] = rest % 10;
                sum += row[k];
                fits &= now.files.get(members.get(k)).sweet + row[k] <= 9;
            }
            if (!fits || sum >= bestSum) continue;
            World w = now.copy();
            for (int k = 0; k < row.length; k++) w.files.get(members.get(k)).sweet += row[k];
            w = w.after(minutes);
            for (int f : members) fits &= w.files.get(f).filed != NONE;
            if (fits) {
                best = row;
                bestSum = sum;
            }
        }
        return best;
    }

    int smear(int f, int minutes, int what) {
        if (noFile(f)) return UNKNOWN;
        if (minutes < 1 || minutes > 99 || what < 0 || what > 2) return OUTSIDE;
        if (now.files.get(f).filed != NONE) return NOT;
        TreeSet<Long> found = new TreeSet<>();
        for (int t = 0; t < now.trails.size(); t++) {
            for (int v = 0; v < 100; v++) {
                World w = now.copy();
                w.trails.get(t).scent = v;
                int at = w.after(minutes).files.get(f).filed;
                if (at != NONE) found.add(at * 10000L + t * 100L + v);
            }
        }
        if (found.isEmpty()) return NONE;
        long first = found.first();
        return (int) (what == 0 ? first / 10000 : what == 1 ? first / 100 % 100 : first % 100);
    }

    int quiet(int a, int b) {
        if (noDesk(a) || noDesk(b)) return UNKNOWN;
        int n = now.kinds.size();
        int far = 1000;
        int[][] way = new int[n][n];
        for (int i = 0; i < n; i++) for (int j = 0; j < n; j++) way[i][j] = i == j ? 0 : far;
        for (Trail t : now.trails) {
            if (t.scent > 0) continue;
            way[t.a][t.b] = 1;
            way[t.b][t.a] = 1;
        }
        for (int k = 0; k < n; k++) {
            for (int i = 0; i < n; i++) {
                for (int j = 0; j < n; j++) way[i][j] = Math.min(way[i][j], way[i][k] + way[k][j]);
            }
        }
        return way[a][b] >= far ? NONE : way[a][b];
    }

    private int filedWith(int queen, int minutes) {
        World w = now.copy();
        w.queen = queen;
        return Integer.bitCount(w.after(minutes).filedBits());
    }

    int harm(int d, int minutes) {
        if (noDesk(d)) return UNKNOWN;
        if (minutes < 1 || minutes > 99) return OUTSIDE;
        return 100 + filedWith(NONE, minutes) - filedWith(d, minutes);
    }

    int worst(int minutes) {
        if (minutes < 1 || minutes > 99) return OUTSIDE;
        int worst = 0;
        for (int d = 1; d < now.kinds.size(); d++) if (harm(d, minutes) > harm(worst, minutes)) worst = d;
        return worst;
    }

    int seen(int f, int d, int t) {
        if (noFile(f) || noDesk(d)) return UNKNOWN;
        if (t < 0 || t > 99) return OUTSIDE;
        if (sightings.size() == 6) return FULL;
        sightings.add(new int[] {f, d, t});
        return sightings.size();
    }

    int forget() {
        int n = sightings.size();
        sightings.clear();
        return n;
    }

    int stamps(int f) {
        if (noFile(f)) return UNKNOWN;
        int bits = 0;
        for (int s = 0; s < 10; s++) {
            boolean so = true;
            for (int[] sighting : sightings) {
                if (sighting[0] != f) continue;
                World w = told.copy();
                w.files.get(f).sweet = s;
                so &= w.after(sighting[2]).files.get(f).desk == sighting[1];
            }
            if (so) bits += 1 << s;
        }
        return bits;
    }

    int crumbs(int d, int n) {
        if (noDesk(d)) return UNKNOWN;
        if (n < 0 || n > 99) return OUTSIDE;
        int was = crumbs[d];
        crumbs[d] = n;
        return was;
    }

    int odds(int d, int part) {
        if (noDesk(d)) return UNKNOWN;
        if (part != 0 && part != 1) return OUTSIDE;
        int all = 0;
        for (int c : crumbs) all += c;
        if (all == 0) return NOT;
        int common = BigInteger.valueOf(crumbs[d]).gcd(BigInteger.valueOf(all)).intValue();
        return part == 0 ? crumbs[d] / common : all / common;
    }

    int count(int what) {
        return switch (what) {
            case 0 -> now.kinds.size();
            case 1 -> now.trails.size();
            case 2 -> now.files.size();
            case 3 -> now.fade;
            case 4 -> now.winter;
            case 5 -> now.minutes;
            case 6 -> now.queen;
            case 7 -> now.filedBits();
            case 8 -> sightings.size();
            case 9 -> text.length();
            default -> OUTSIDE;
        };
    }
}
