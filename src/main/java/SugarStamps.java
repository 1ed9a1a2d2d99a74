import java.util.Arrays;

/**
 * Sugar on the stamp: a ministry whose files are carried from desk to desk by ants. Texts tell the
 * desks, trails and files; minutes go one by one; what comes is foretold on a trial course.
 */
public final class SugarStamps {
    public static final int NONE = -1, UNKNOWN = -2, OUTSIDE = -3, NOT = -4, FULL = -5;

    private static final int FIRST_DESKS = 2, MOST_DESKS = 8, MOST_TRAILS = 12, MOST_FILES = 6;
    private static final int MOST_BYTES = 200, BYTES_A_CALL = 8, MOST_LINES = 12;
    private static final int MOST_SCENT = 99, MOST_SWEETNESS = 9, FIRST_FADE = 1, MOST_FADE = 9;
    private static final int MOST_WINTER = 99, MOST_MINUTES_A_CALL = 99, MOST_MINUTES = 9999;
    private static final int MOST_AHEAD = 99, FILED_AHEAD = 200, HONEY_MINUTES = 60, HONEY_FILES = 4;
    private static final int KEPT = 2, MOST_SEEN = 6, MOST_CRUMBS = 99;

    private static final int PLAIN = 0, LICKING = 1, STAMPING = 2, CELLAR = 3;
    private static final int AS_DESK = 0, AS_PLAIN = 1, AS_LICKING = 2, AS_STAMPING = 3, AS_CELLAR = 4;
    private static final int SWEETNESS_TAKEN_AS = 5;

    private final Text text;
    private final Told told;
    private final Reader reader;
    private final Course now;
    private final Course[] kept;
    private final boolean[] isKept;
    private final Foresight foresight;
    private final Sightings sightings;
    private final Crumbs friday;

    public SugarStamps() {
        text = new Text();
        told = new Told();
        reader = new Reader(text);
        now = new Course();
        now.begin(told);
        kept = new Course[KEPT];
        for (int k = 0; k < KEPT; k++) kept[k] = new Course();
        isKept = new boolean[KEPT];
        foresight = new Foresight(told, now);
        sightings = new Sightings();
        friday = new Crumbs();
    }

    // ---- what is told

    public int write(long bytes, int n) {
        if (n < 1 || n > BYTES_A_CALL) return OUTSIDE;
        if (text.length + n > MOST_BYTES) return FULL;
        for (int i = 0; i < n; i++) text.append((int) (bytes >> 8 * i & 255L));
        return text.length;
    }

    public int erase() {
        return text.clear();
    }

    public int fault() {
        reader.readOn(told);
        return reader.faultPlace;
    }

    public int office() {
        reader.readOn(told);
        if (reader.faultPlace != NONE) return NOT;
        told.takeFrom(reader.draft);
        text.clear();
        now.begin(told);
        for (int k = 0; k < KEPT; k++) isKept[k] = false;
        sightings.clear();
        friday.clear();
        return reader.lines;
    }

    public int desk(int desk, int what) {
        if (!isDesk(desk)) return UNKNOWN;
        switch (what) {
            case 0: return told.kind[desk];
            case 1: return now.filesAt(desk, told.files);
            case 2: return told.trailsOf(desk);
            default: return OUTSIDE;
        }
    }

    public int trail(int trail, int what) {
        if (!isTrail(trail)) return UNKNOWN;
        switch (what) {
            case 0: return told.oneDesk[trail];
            case 1: return told.otherDesk[trail];
            case 2: return now.scent[trail];
            default: return OUTSIDE;
        }
    }

    public int file(int file, int what) {
        if (!isFile(file)) return UNKNOWN;
        switch (what) {
            case 0: return now.at[file];
            case 1: return told.end[file];
            case 2: return now.sweetness[file];
            case 3: return now.cameBy[file];
            case 4: return now.filedIn[file];
            default: return OUTSIDE;
        }
    }

    public int as(int desk, int kind) {
        if (!isDesk(desk)) return UNKNOWN;
        if (kind < AS_DESK || kind > AS_CELLAR) return OUTSIDE;
        if (!told.isA(desk, kind)) return NOT;
        return told.sweetnessBehind(desk, SWEETNESS_TAKEN_AS);
    }

    // ---- minutes

    public int go(int n) {
        if (n < 1 || n > MOST_MINUTES_A_CALL) return OUTSIDE;
        if (now.gone + n > MOST_MINUTES) return FULL;
        now.run(told, n);
        return now.gone;
    }

    public int next(int file) {
        if (!isFile(file)) return UNKNOWN;
        now.choose(told);
        return now.carriedBy[file];
    }

    public int spill(int trail, int v) {
        if (!isTrail(trail)) return UNKNOWN;
        if (v < 0 || v > MOST_SCENT) return OUTSIDE;
        int before = now.scent[trail];
        now.scent[trail] = v;
        return before;
    }

    public int stamp(int file, int v) {
        if (!isFile(file)) return UNKNOWN;
        if (v < 0 || v > MOST_SWEETNESS) return OUTSIDE;
        if (now.isFiled(file)) return NOT;
        int before = now.sweetness[file];
        now.sweetness[file] = v;
        return before;
    }

    public int rain() {
        return now.halveScents(told.trails);
    }

    public int sit(int desk) {
        if (desk != NONE && !isDesk(desk)) return UNKNOWN;
        int before = now.queen;
        now.queen = desk;
        return before;
    }

    public int keep(int k) {
        if (k < 0 || k >= KEPT) return UNKNOWN;
        kept[k].takeFrom(now);
        isKept[k] = true;
        return now.gone;
    }

    public int back(int k) {
        if (k < 0 || k >= KEPT) return UNKNOWN;
        if (!isKept[k]) return NOT;
        now.takeFrom(kept[k]);
        return now.gone;
    }

    // ---- foretold

    public int later(int which, int t, int what) {
        if (what < 0 || what > 2) return OUTSIDE;
        if (what == 2 ? !isTrail(which) : !isFile(which)) return UNKNOWN;
        if (t < 0 || t > MOST_AHEAD) return OUTSIDE;
        Course then = foresight.inMinutes(t);
        if (what == 2) return then.scent[which];
        return what == 1 ? then.sweetness[which] : then.at[which];
    }

    public int filed(int file) {
        if (!isFile(file)) return UNKNOWN;
        return foresight.minuteOfFiling(file);
    }

    public int queue(int desk, int t) {
        if (!isDesk(desk)) return UNKNOWN;
        if (t < 0 || t > MOST_AHEAD) return OUTSIDE;
        Course then = foresight.inMinutes(t);
        return Integer.bitCount(then.filesAt(desk, told.files) & ~then.filedFiles);
    }

    public int honey(int set, int minutes, int i) {
        if (set < 0 || set >> told.files != 0) return UNKNOWN;
        if (minutes < 1 || minutes > HONEY_MINUTES || i < NONE) return OUTSIDE;
        int size = Integer.bitCount(set);
        if (size > HONEY_FILES || (set & now.filedFiles) != 0) return NOT;
        if (i >= size) return NONE;
        int together = foresight.leastHoney(set, minutes);
        return together == NONE || i == NONE ? together : foresight.share[i];
    }

    public int smear(int file, int minutes, int what) {
        if (!isFile(file)) return UNKNOWN;
        if (minutes < 1 || minutes > MOST_AHEAD || what < 0 || what > 2) return OUTSIDE;
        if (now.isFiled(file)) return NOT;
        foresight.findSmear(file, minutes);
        return foresight.smear[what];
    }

    public int quiet(int a, int b) {
        if (!isDesk(a) || !isDesk(b)) return UNKNOWN;
        return foresight.fewestTrails(a, b, true);
    }

    public int harm(int desk, int minutes) {
        if (!isDesk(desk)) return UNKNOWN;
        if (minutes < 1 || minutes > MOST_AHEAD) return OUTSIDE;
        return foresight.filesFiled(NONE, minutes) - foresight.filesFiled(desk, minutes) + 100;
    }

    public int worst(int minutes) {
        if (minutes < 1 || minutes > MOST_AHEAD) return OUTSIDE;
        return foresight.worstDesk(minutes);
    }

    // ---- what was seen

    public int seen(int file, int desk, int t) {
        if (!isFile(file) || !isDesk(desk)) return UNKNOWN;
        if (t < 0 || t > MOST_AHEAD) return OUTSIDE;
        if (sightings.count >= MOST_SEEN) return FULL;
        return sightings.add(file, desk, t);
    }

    public int forget() {
        return sightings.clear();
    }

    public int stamps(int file) {
        if (!isFile(file)) return UNKNOWN;
        return foresight.stampsBy(sightings, file);
    }

    public int crumbs(int desk, int n) {
        if (!isDesk(desk)) return UNKNOWN;
        if (n < 0 || n > MOST_CRUMBS) return OUTSIDE;
        int before = friday.at[desk];
        friday.at[desk] = n;
        return before;
    }

    public int odds(int desk, int part) {
        if (!isDesk(desk)) return UNKNOWN;
        if (part < 0 || part > 1) return OUTSIDE;
        int all = friday.sum();
        if (all < 1) return NOT;
        int here = friday.at[desk];
        int common = Crumbs.commonDivisor(here, all);
        return (part == 0 ? here : all) / common;
    }

    public int count(int what) {
        switch (what) {
            case 0: return told.desks;
            case 1: return told.trails;
            case 2: return told.files;
            case 3: return told.fade;
            case 4: return now.winter;
            case 5: return now.gone;
            case 6: return now.queen;
            case 7: return now.filedFiles;
            case 8: return sightings.count;
            case 9: return text.length;
            default: return OUTSIDE;
        }
    }

    private boolean isDesk(int desk) {
        return desk >= 0 && desk < told.desks;
    }

    private boolean isTrail(int trail) {
        return trail >= 0 && trail < told.trails;
    }

    private boolean isFile(int file) {
        return file >= 0 && file < told.files;
    }

    /** The bytes of the text that is being written. */
    private static final class Text {
        final int[] bytes = new int[MOST_BYTES];
        int length = 0;

        void append(int value) {
            if (length < MOST_BYTES) bytes[length++] = value;
        }

        int clear() {
            int before = length;
            length = 0;
            return before;
        }

        /** The byte at a place, NONE behind the last one. */
        int at(int place) {
            return place >= 0 && place < length ? bytes[place] : NONE;
        }
    }

    /** What the texts tell: all as it is at minute 0. */
    private static final class Told {
        int desks, trails, files, fade, winter;
        final int[] kind = new int[MOST_DESKS];
        final int[] oneDesk = new int[MOST_TRAILS];
        final int[] otherDesk = new int[MOST_TRAILS];
        final int[] scent = new int[MOST_TRAILS];
        final int[] start = new int[MOST_FILES];
        final int[] end = new int[MOST_FILES];
        final int[] sweetness = new int[MOST_FILES];

        Told() {
            becomeNew(FIRST_DESKS);
        }

        void becomeNew(int n) {
            desks = n;
            trails = 0;
            files = 0;
            fade = FIRST_FADE;
            winter = 0;
            Arrays.fill(kind, PLAIN);
        }

        void takeFrom(Told that) {
            desks = that.desks;
            trails = that.trails;
            files = that.files;
            fade = that.fade;
            winter = that.winter;
            System.arraycopy(that.kind, 0, kind, 0, MOST_DESKS);
            System.arraycopy(that.oneDesk, 0, oneDesk, 0, MOST_TRAILS);
            System.arraycopy(that.otherDesk, 0, otherDesk, 0, MOST_TRAILS);
            System.arraycopy(that.scent, 0, scent, 0, MOST_TRAILS);
            System.arraycopy(that.start, 0, start, 0, MOST_FILES);
            System.arraycopy(that.end, 0, end, 0, MOST_FILES);
            System.arraycopy(that.sweetness, 0, sweetness, 0, MOST_FILES);
        }

        void addTrail(int a, int b, int s) {
            if (trails >= MOST_TRAILS) return;
            oneDesk[trails] = a;
            otherDesk[trails] = b;
            scent[trails] = s;
            trails++;
        }

        void addFile(int a, int b, int w) {
            if (files >= MOST_FILES) return;
            start[files] = a;
            end[files] = b;
            sweetness[files] = w;
            files++;
        }

        boolean isOf(int trail, int desk) {
            return oneDesk[trail] == desk || otherDesk[trail] == desk;
        }

        int trailsOf(int desk) {
            int n = 0;
            for (int t = 0; t < trails; t++) {
                if (isOf(t, desk)) n++;
            }
            return n;
        }

        /** The desk at the far end of a trail that is of the given desk. */
        int across(int trail, int desk) {
            return oneDesk[trail] == desk ? otherDesk[trail] : oneDesk[trail];
        }

        boolean isA(int desk, int as) {
            switch (as) {
                case AS_DESK: return true;
                case AS_PLAIN: return kind[desk] != CELLAR;
                case AS_LICKING: return kind[desk] == LICKING;
                case AS_STAMPING: return kind[desk] == STAMPING;
                case AS_CELLAR: return kind[desk] == CELLAR;
                default: return false;
            }
        }

        /** What a sweetness becomes as a file comes to a desk. */
        int sweetnessBehind(int desk, int before) {
            switch (kind[desk]) {
                case LICKING: return Math.max(0, before - 1);
                case STAMPING: return Math.min(MOST_SWEETNESS, before + 1);
                default: return before;
            }
        }
    }

    /** Reads the text, line by line, into a draft of what is told, up to the first fault. */
    private static final class Reader {
        private final Text text;
        final Told draft = new Told();
        int faultPlace, lines;
        /** The token in hand: the bytes from .. to - 1; both are the length behind the last token. */
        private int from, to;

        Reader(Text text) {
            this.text = text;
        }

        void readOn(Told told) {
            draft.takeFrom(told);
            faultPlace = NONE;
            to = 0;
            for (int line = 1; line <= MOST_LINES; line++) {
                if (!readLine()) return;
                lines = line;
                takeToken();
                if (from >= text.length) return;
                if (text.at(from) != ';' || line == MOST_LINES) {
                    refuseToken();
                    return;
                }
            }
        }

        private boolean readLine() {
            takeToken();
            if (tokenIs("office")) return readOffice();
            if (tokenIs("plain")) return readKind(PLAIN);
            if (tokenIs("licks")) return readKind(LICKING);
            if (tokenIs("stamps")) return readKind(STAMPING);
            if (tokenIs("cellar")) return readKind(CELLAR);
            if (tokenIs("trail") && draft.trails < MOST_TRAILS) return readTrail();
            if (tokenIs("file") && draft.files < MOST_FILES) return readFile();
            if (tokenIs("fade")) return readFade();
            if (tokenIs("winter")) return readWinter();
            return refuseToken();
        }

        private boolean readOffice() {
            int n = readNumber(FIRST_DESKS, MOST_DESKS);
            if (n == NONE) return false;
            draft.becomeNew(n);
            return true;
        }

        private boolean readKind(int kind) {
            int desk = readNumber(0, draft.desks - 1);
            if (desk == NONE) return false;
            draft.kind[desk] = kind;
            return true;
        }

        private boolean readTrail() {
            int a = readNumber(0, draft.desks - 1);
            int b = a == NONE ? NONE : readDeskUnlike(a);
            int scent = b == NONE ? NONE : readNumber(0, MOST_SCENT);
            if (scent == NONE) return false;
            draft.addTrail(a, b, scent);
            return true;
        }

        private boolean readFile() {
            int a = readNumber(0, draft.desks - 1);
            int b = a == NONE ? NONE : readDeskUnlike(a);
            int sweetness = b == NONE ? NONE : readNumber(0, MOST_SWEETNESS);
            if (sweetness == NONE) return false;
            draft.addFile(a, b, sweetness);
            return true;
        }

        private boolean readFade() {
            int fade = readNumber(0, MOST_FADE);
            if (fade == NONE) return false;
            draft.fade = fade;
            return true;
        }

        private boolean readWinter() {
            int winter = readNumber(0, MOST_WINTER);
            if (winter == NONE) return false;
            draft.winter = winter;
            return true;
        }

        private int readDeskUnlike(int other) {
            int desk = readNumber(0, draft.desks - 1);
            if (desk != other) return desk;
            refuseToken();
            return NONE;
        }

        /** The number that the next token must be; NONE, and a fault, if it is none such. */
        private int readNumber(int least, int most) {
            takeToken();
            int digits = to - from;
            if (isDigit(text.at(from)) && digits <= 2) {
                int value = text.at(from) - '0';
                if (digits == 2) value = 10 * value + text.at(from + 1) - '0';
                if (value >= least && value <= most) return value;
            }
            refuseToken();
            return NONE;
        }

        private boolean refuseToken() {
            faultPlace = from;
            return false;
        }

        private void takeToken() {
            from = to;
            while (from < text.length && text.at(from) == ' ') from++;
            to = from;
            if (to >= text.length) return;
            to++;
            int first = text.at(from);
            if (isLetter(first)) {
                while (to < text.length && isLetter(text.at(to))) to++;
            } else if (isDigit(first)) {
                while (to < text.length && isDigit(text.at(to))) to++;
            }
        }

        private boolean tokenIs(String word) {
            if (to - from != word.length()) return false;
            for (int i = 0; i < word.length(); i++) {
                if (text.at(from + i) != word.charAt(i)) return false;
            }
            return true;
        }

        private static boolean isLetter(int value) {
            return value >= 'a' && value <= 'z';
        }

        private static boolean isDigit(int value) {
            return value >= '0' && value <= '9';
        }
    }

    /** What changes by minutes: where files are, how sweet they are, how trails smell. */
    private static final class Course {
        int winter, gone, queen, filedFiles;
        final int[] scent = new int[MOST_TRAILS];
        final int[] at = new int[MOST_FILES];
        final int[] sweetness = new int[MOST_FILES];
        final int[] cameBy = new int[MOST_FILES];
        final int[] filedIn = new int[MOST_FILES];
        /** For each file the trail of the minute that comes, as choose() found it last. */
        final int[] carriedBy = new int[MOST_FILES];
        private final int[] sweetest = new int[MOST_DESKS];

        void begin(Told told) {
            winter = told.winter;
            gone = 0;
            queen = NONE;
            filedFiles = 0;
            System.arraycopy(told.scent, 0, scent, 0, MOST_TRAILS);
            System.arraycopy(told.start, 0, at, 0, MOST_FILES);
            System.arraycopy(told.sweetness, 0, sweetness, 0, MOST_FILES);
            Arrays.fill(cameBy, NONE);
            Arrays.fill(filedIn, NONE);
        }

        void takeFrom(Course that) {
            winter = that.winter;
            gone = that.gone;
            queen = that.queen;
            filedFiles = that.filedFiles;
            System.arraycopy(that.scent, 0, scent, 0, MOST_TRAILS);
            System.arraycopy(that.at, 0, at, 0, MOST_FILES);
            System.arraycopy(that.sweetness, 0, sweetness, 0, MOST_FILES);
            System.arraycopy(that.cameBy, 0, cameBy, 0, MOST_FILES);
            System.arraycopy(that.filedIn, 0, filedIn, 0, MOST_FILES);
        }

        void run(Told told, int minutes) {
            for (int i = 0; i < minutes; i++) passMinute(told);
        }

        /** Lets minutes go until all files of the set are filed; true if they are in time. */
        boolean runUntilFiled(Told told, int set, int minutes) {
            for (int i = 0; i < minutes && (filedFiles & set) != set; i++) {
                boolean frozen = winter > 0;
                // Scent alone moves nothing: where none was carried though it is no winter, none ever will be.
                if (!passMinute(told) && !frozen) return false;
            }
            return (filedFiles & set) == set;
        }

        /** One minute goes; true if a file was carried in it. */
        boolean passMinute(Told told) {
            boolean carried = choose(told);
            if (winter > 0) winter--;
            if (carried) leaveScent(told);
            fadeScents(told);
            if (carried) arrive(told);
            gone++;
            return carried;
        }

        /** Finds the trails by which files will be carried in the minute that comes; true if one will be. */
        boolean choose(Told told) {
            Arrays.fill(carriedBy, NONE);
            if (winter > 0) return false;
            findSweetest(told);
            boolean carried = false;
            for (int d = 0; d < told.desks; d++) {
                int file = sweetest[d];
                if (file == NONE || !letsGo(d, told)) continue;
                carriedBy[file] = wayFrom(d, cameBy[file], told);
                if (carriedBy[file] != NONE) carried = true;
            }
            return carried;
        }

        /** Whether files are carried from a desk at all. */
        boolean letsGo(int desk, Told told) {
            return desk != queen && told.kind[desk] != CELLAR;
        }

        private void findSweetest(Told told) {
            Arrays.fill(sweetest, NONE);
            for (int f = 0; f < told.files; f++) {
                if (isFiled(f) || sweetness[f] == 0) continue;
                int rival = sweetest[at[f]];
                if (rival == NONE || sweetness[f] > sweetness[rival]) sweetest[at[f]] = f;
            }
        }

        /** The trail of the desk that smells most, the one by which the file came only if there is no other. */
        private int wayFrom(int desk, int cameByLast, Told told) {
            int best = NONE;
            for (int t = 0; t < told.trails; t++) {
                if (t == cameByLast || !told.isOf(t, desk)) continue;
                if (best == NONE || scent[t] > scent[best]) best = t;
            }
            return best == NONE ? cameByLast : best;
        }

        private void leaveScent(Told told) {
            for (int f = 0; f < told.files; f++) {
                int trail = carriedBy[f];
                if (trail != NONE) scent[trail] = Math.min(MOST_SCENT, scent[trail] + sweetness[f]);
            }
        }

        private void fadeScents(Told told) {
            for (int t = 0; t < told.trails; t++) scent[t] = Math.max(0, scent[t] - told.fade);
        }

        private void arrive(Told told) {
            for (int f = 0; f < told.files; f++) {
                int trail = carriedBy[f];
                if (trail == NONE) continue;
                cameBy[f] = trail;
                at[f] = told.across(trail, at[f]);
                sweetness[f] = told.sweetnessBehind(at[f], sweetness[f]);
                if (at[f] == told.end[f]) {
                    filedIn[f] = gone;
                    filedFiles |= 1 << f;
                }
            }
        }

        boolean isFiled(int file) {
            return filedIn[file] != NONE;
        }

        int filesAt(int desk, int files) {
            int bits = 0;
            for (int f = 0; f < files; f++) {
                if (at[f] == desk) bits |= 1 << f;
            }
            return bits;
        }

        int halveScents(int trails) {
            int smelling = 0;
            for (int t = 0; t < trails; t++) {
                scent[t] /= 2;
                if (scent[t] > 0) smelling++;
            }
            return smelling;
        }
    }

    /** What is foretold: a trial course runs ahead of the true one, which stays as it is. */
    private static final class Foresight {
        private final Told told;
        private final Course now;
        private final Course trial = new Course();
        private final int[] member = new int[HONEY_FILES];
        /** What each file of the set gets, behind leastHoney(). */
        final int[] share = new int[HONEY_FILES];
        /** Minute, trail and scent, behind findSmear(). */
        final int[] smear = new int[3];
        private final int[] steps = new int[MOST_DESKS];

        Foresight(Told told, Course now) {
            this.told = told;
            this.now = now;
        }

        Course inMinutes(int t) {
            trial.takeFrom(now);
            trial.run(told, t);
            return trial;
        }

        int minuteOfFiling(int file) {
            trial.takeFrom(now);
            trial.runUntilFiled(told, 1 << file, FILED_AHEAD);
            return trial.filedIn[file];
        }

        /** The least honey for a set of files; NONE if there is no such. */
        int leastHoney(int set, int minutes) {
            int size = 0;
            for (int f = 0; f < told.files; f++) {
                if ((set >> f & 1) == 0 || size >= HONEY_FILES) continue;
                if (!mayBeInTime(f, minutes)) return NONE;
                member[size++] = f;
            }
            for (int together = 0; together <= size * MOST_SWEETNESS; together++) {
                if (spreads(together, 0, size, set, minutes)) return together;
            }
            return NONE;
        }

        /** Whether the way to a file's end is short enough at all, as one trail takes one minute: spares many trials. */
        private boolean mayBeInTime(int file, int minutes) {
            int way = fewestTrails(now.at[file], told.end[file], false);
            return way != NONE && now.winter + way <= minutes;
        }

        /** Tries the rows that give what is left to the members from place on, those with less ahead first. */
        private boolean spreads(int left, int place, int size, int set, int minutes) {
            if (place >= size) {
                giveShares(size);
                return trial.runUntilFiled(told, set, minutes);
            }
            int has = now.sweetness[member[place]];
            // One without sweetness is never carried.
            int least = has == 0 ? 1 : 0;
            int most = Math.min(left, MOST_SWEETNESS - has);
            if (place == size - 1) least = Math.max(least, left);
            for (int more = least; more <= most; more++) {
                share[place] = more;
                if (spreads(left - more, place + 1, size, set, minutes)) return true;
            }
            return false;
        }

        private void giveShares(int size) {
            trial.takeFrom(now);
            for (int i = 0; i < size; i++) trial.sweetness[member[i]] += share[i];
        }

        void findSmear(int file, int minutes) {
            Arrays.fill(smear, NONE);
            int within = minutes;
            for (int t = 0; t < told.trails; t++) {
                for (int v = 0; v <= MOST_SCENT && within > 0; v++) {
                    trial.takeFrom(now);
                    trial.scent[t] = v;
                    if (!trial.runUntilFiled(told, 1 << file, within)) continue;
                    smear[0] = trial.filedIn[file];
                    smear[1] = t;
                    smear[2] = v;
                    // Only a sooner minute is better than this one.
                    within = trial.filedIn[file] - now.gone;
                }
            }
        }

        /** The fewest trails from a desk to another one: those without scent, or else those by which files may go now. */
        int fewestTrails(int a, int b, boolean quiet) {
            Arrays.fill(steps, NONE);
            steps[a] = 0;
            for (int far = 0; far < told.desks && steps[b] == NONE; far++) {
                for (int t = 0; t < told.trails; t++) {
                    if (quiet && now.scent[t] != 0) continue;
                    stepOver(told.oneDesk[t], told.otherDesk[t], far, quiet);
                    stepOver(told.otherDesk[t], told.oneDesk[t], far, quiet);
                }
            }
            return steps[b];
        }

        private void stepOver(int desk, int across, int far, boolean quiet) {
            if (steps[desk] != far || steps[across] != NONE) return;
            if (quiet || now.letsGo(desk, told)) steps[across] = far + 1;
        }

        /** How many files are filed some minutes on, if the queen sits on a desk from now on. */
        int filesFiled(int queen, int minutes) {
            trial.takeFrom(now);
            trial.queen = queen;
            trial.run(told, minutes);
            return Integer.bitCount(trial.filedFiles);
        }

        /** Harm is most where fewest files are filed. */
        int worstDesk(int minutes) {
            int worst = 0;
            int fewest = filesFiled(0, minutes);
            for (int d = 1; d < told.desks; d++) {
                int n = filesFiled(d, minutes);
                if (n >= fewest) continue;
                fewest = n;
                worst = d;
            }
            return worst;
        }

        int stampsBy(Sightings sightings, int file) {
            int bits = 0;
            for (int s = 0; s <= MOST_SWEETNESS; s++) {
                trial.begin(told);
                trial.sweetness[file] = s;
                if (agreesWith(sightings, file)) bits |= 1 << s;
            }
            return bits;
        }

        private boolean agreesWith(Sightings sightings, int file) {
            int last = sightings.lastOf(file);
            for (int t = 0; t <= last; t++) {
                if (!sightings.allow(file, trial.at[file], t)) return false;
                trial.passMinute(told);
            }
            return true;
        }
    }

    /** At which desks files were seen, and when. */
    private static final class Sightings {
        int count = 0;
        private final int[] file = new int[MOST_SEEN];
        private final int[] desk = new int[MOST_SEEN];
        private final int[] minute = new int[MOST_SEEN];

        int add(int f, int d, int t) {
            if (count >= MOST_SEEN) return count;
            file[count] = f;
            desk[count] = d;
            minute[count] = t;
            return ++count;
        }

        int clear() {
            int before = count;
            count = 0;
            return before;
        }

        /** The last minute in which a file was seen; NONE. */
        int lastOf(int f) {
            int last = NONE;
            for (int k = 0; k < count; k++) {
                if (file[k] == f) last = Math.max(last, minute[k]);
            }
            return last;
        }

        /** Whether a file may have been at a desk at a minute's begin. */
        boolean allow(int f, int d, int t) {
            for (int k = 0; k < count; k++) {
                if (file[k] == f && minute[k] == t && desk[k] != d) return false;
            }
            return true;
        }
    }

    /** The crumbs that were told, desk by desk. */
    private static final class Crumbs {
        final int[] at = new int[MOST_DESKS];

        void clear() {
            Arrays.fill(at, 0);
        }

        int sum() {
            int all = 0;
            for (int d = 0; d < at.length; d++) all += at[d];
            return all;
        }

        /** The greatest number that divides both; all is above 0. */
        static int commonDivisor(int here, int all) {
            for (int d = all; d > 1; d--) {
                if (here % d == 0 && all % d == 0) return d;
            }
            return 1;
        }
    }
}
