/** A crowd that claps to a band, row by row: a hall, a night in it, and what would become of it. */
public final class ClappedWrong {
    public static final int NONE = -1, UNKNOWN = -101, OUTSIDE = -102, STATE = -103, FULL = -104;

    private static final int LEAST_ROWS = 3, MOST_ROWS = 8, MOST_LATE = 3, MOST_LETTERS = 36;
    private static final int CLAPPER = 0, STUBBORN = 1, FOLLOWING = 2, EASY = 3, DEAF = 4, LAST_KIND = 4;
    private static final String KIND_LETTERS = "csfed";
    private static final int NOTHING = 0, ODD = 1, EVEN = 2, ALL = 3;
    private static final int LAST_BEAT = 3, LAST_ABOUT = 8, LAST_COUNT = 11;
    private static final int MOST_PALMS = 72, MOST_RECORDED = 8;
    private static final int MOST_BARS_AHEAD = 30, MOST_BARS_TRIED = 12, MOST_BARS_BY_SEED = 60;
    private static final int MOST_DONE = 30;
    private static final int DIGEST_START = 773, DIGEST_FACTOR = 31, DIGEST_BARS = 4;

    private final Page page;
    private final Hall room;
    private final Night night;
    private final Night kept;
    private final Crowd trial;
    private boolean isKept;
    private int hallsRead;
    private int turnedDone;
    private int beganDone;

    public ClappedWrong() {
        page = new Page();
        room = new Hall();
        night = new Night();
        kept = new Night();
        trial = new Crowd();
        isKept = false;
        hallsRead = 0;
        turnedDone = 0;
        beganDone = 0;
    }

    // ---- the hall

    public int letter(int code) {
        if (!within(code, 1, 126)) {
            return OUTSIDE;
        }
        return page.write(code) ? page.length : FULL;
    }

    public int blank() {
        int had = page.length;
        page.wipe();
        return had;
    }

    public int fault() {
        return page.firstFault();
    }

    public int hall() {
        if (!page.isWhole()) {
            return STATE;
        }
        room.read(page);
        page.wipe();
        night.startAnew();
        isKept = false;
        hallsRead++;
        return room.rows;
    }

    public int about(int row, int what) {
        if (!room.has(row)) {
            return UNKNOWN;
        }
        return within(what, 0, LAST_ABOUT) ? aboutRow(row, what) : OUTSIDE;
    }

    public int as(int row, int kind) {
        if (!room.has(row)) {
            return UNKNOWN;
        }
        if (!within(kind, 0, LAST_KIND)) {
            return OUTSIDE;
        }
        return room.isOf(row, kind) ? row : NONE;
    }

    // ---- a night

    public int clap(int row, int clap) {
        if (!room.has(row)) {
            return UNKNOWN;
        }
        if (!within(clap, NOTHING, ALL)) {
            return OUTSIDE;
        }
        int before = heard(row, night.crowd.soundOf(row));
        night.crowd.let(row, heard(row, clap));
        return before;
    }

    public int arm(int rows) {
        if (!within(rows, 0, MOST_ROWS)) {
            return OUTSIDE;
        }
        if (!room.isThere()) {
            return STATE;
        }
        int before = night.crowd.armRows;
        night.crowd.armRows = rows;
        return before;
    }

    public int bar() {
        if (!room.isThere()) {
            return STATE;
        }
        night.crowd.goOn(room);
        night.barsGone++;
        return night.crowd.palmsRight(room);
    }

    public int skip() {
        if (!room.isThere()) {
            return STATE;
        }
        night.crowd.leaveBeatOut(room);
        night.beatsLeftOut++;
        return night.crowd.palmsRight(room);
    }

    public int loud(int row, int beat) {
        if (!room.has(row)) {
            return UNKNOWN;
        }
        return within(beat, 0, LAST_BEAT) ? night.crowd.loudness(room, row, beat) : OUTSIDE;
    }

    // ---- what would be

    public int rest() {
        return room.isThere() ? barsToRest() : STATE;
    }

    public int outcome(int bars) {
        if (!within(bars, 0, MOST_BARS_AHEAD)) {
            return OUTSIDE;
        }
        return room.isThere() ? rightBehind(bars, NONE) : STATE;
    }

    public int trick(int bars, int what) {
        if (!within(bars, 1, MOST_BARS_TRIED) || !within(what, 0, 1)) {
            return OUTSIDE;
        }
        return room.isThere() ? trickTold(bars, what) : STATE;
    }

    public int turned(int bars, int what) {
        if (!within(bars, 0, MOST_BARS_TRIED) || !within(what, 0, 1)) {
            return OUTSIDE;
        }
        if (!room.isThere() || turnedDone >= MOST_DONE) {
            return STATE;
        }
        turnedDone++;
        int set = fewestTurned(bars);
        if (set == NONE) {
            return NONE;
        }
        return what == 0 ? Integer.bitCount(set) : set;
    }

    // ---- a record

    public int record(int palms) {
        if (!within(palms, 0, MOST_PALMS)) {
            return OUTSIDE;
        }
        return night.noteDown(palms) ? night.recorded : FULL;
    }

    public int forget() {
        int had = night.recorded;
        night.recorded = 0;
        return had;
    }

    public int began(int what) {
        if (!within(what, 0, 1)) {
            return OUTSIDE;
        }
        if (!room.isThere() || beganDone >= MOST_DONE) {
            return STATE;
        }
        beganDone++;
        return what == 0 ? waysBegun() : leastBegun();
    }

    public int nights(int bars, int seed, int what) {
        if (!within(bars, 1, MOST_BARS_BY_SEED) || seed < 0 || !within(what, 0, 2)) {
            return OUTSIDE;
        }
        return room.isThere() ? nightsTold(bars, seed, what) : STATE;
    }

    // ---- what is told of all

    public int image() {
        if (!room.isThere()) {
            return STATE;
        }
        kept.takeFrom(night);
        isKept = true;
        return kept.barsGone;
    }

    public int restore() {
        if (!isKept) {
            return STATE;
        }
        night.takeFrom(kept);
        return night.barsGone;
    }

    public int count(int what) {
        switch (what) {
            case 0: return room.rows;
            case 1: return room.late;
            case 2: return room.allPalms();
            case 3: return night.crowd.palmsRight(room);
            case 4: return night.crowd.armRows;
            case 5: return night.barsGone;
            case 6: return night.beatsLeftOut;
            case 7: return night.recorded;
            case 8: return page.length;
            case 9: return hallsRead;
            case 10: return turnedDone;
            case 11: return beganDone;
            default: return OUTSIDE;
        }
    }

    public long digest() {
        long h = DIGEST_START;
        for (int row = 0; row < room.rows; row++) {
            for (int what = 0; what <= LAST_ABOUT; what++) {
                h = mixed(h, aboutRow(row, what));
            }
            for (int beat = 0; beat <= LAST_BEAT; beat++) {
                h = mixed(h, night.crowd.loudness(room, row, beat));
            }
        }
        if (room.isThere()) {
            h = mixed(h, barsToRest());
            h = mixed(h, rightBehind(DIGEST_BARS, NONE));
            h = mixed(h, trickTold(DIGEST_BARS, 0));
            h = mixed(h, trickTold(DIGEST_BARS, 1));
        }
        for (int place = 0; place < page.length; place++) {
            h = mixed(h, page.codeAt(place));
        }
        for (int what = 0; what <= LAST_COUNT; what++) {
            h = mixed(h, count(what));
        }
        return h;
    }

    // ---- what the calls above share

    private static boolean within(int number, int least, int most) {
        return number >= least && number <= most;
    }

    private static int oneIf(boolean is) {
        return is ? 1 : 0;
    }

    private static int swapped(int sound) {
        if (sound == ODD) {
            return EVEN;
        }
        return sound == EVEN ? ODD : sound;
    }

    private static long mixed(long h, int number) {
        return DIGEST_FACTOR * h + number;
    }

    /** The swap is its own inverse, so this leads from what sounds to what is clapped and back. */
    private int heard(int row, int sound) {
        return room.lag(row) % 2 == 1 ? swapped(sound) : sound;
    }

    private int aboutRow(int row, int what) {
        Crowd crowd = night.crowd;
        switch (what) {
            case 0: return room.kindOf(row);
            case 1: return room.palmsOf(row);
            case 2: return room.strengthOf(row);
            case 3: return room.lag(row);
            case 4: return crowd.soundOf(row);
            case 5: return heard(row, crowd.soundOf(row));
            case 6: return crowd.clappedOf(row);
            case 7: return oneIf(crowd.isTired(room, row));
            default: return oneIf(crowd.seesArm(row));
        }
    }

    private int barsToRest() {
        trial.takeFrom(night.crowd);
        for (int bars = 0; bars <= MOST_BARS_AHEAD; bars++) {
            if (!trial.goOn(room)) {
                return bars;
            }
        }
        return NONE;
    }

    /** PALMS that are RIGHT behind so many BARS, with a BEAT left out behind some of them; NONE: with all BEATS. */
    private int rightBehind(int bars, int leftOutBehind) {
        trial.takeFrom(night.crowd);
        for (int gone = 0; gone < bars; gone++) {
            if (gone == leftOutBehind) {
                trial.leaveBeatOut(room);
            }
            trial.goOn(room);
        }
        return trial.palmsRight(room);
    }

    private int trickTold(int bars, int what) {
        int best = NONE;
        int most = rightBehind(bars, NONE);
        for (int behind = 0; behind < bars; behind++) {
            int right = rightBehind(bars, behind);
            if (right > most) {
                best = behind;
                most = right;
            }
        }
        return what == 0 ? best : most;
    }

    /** The sets are gone through by their bits, so of like ones the least is found first. */
    private int fewestTurned(int bars) {
        int best = NONE;
        int fewest = room.rows + 1;
        int sets = 1 << room.rows;
        for (int set = 0; set < sets; set++) {
            int size = Integer.bitCount(set);
            if (size < fewest && winsAll(set, bars)) {
                best = set;
                fewest = size;
            }
        }
        return best;
    }

    private boolean winsAll(int set, int bars) {
        trial.takeFrom(night.crowd);
        for (int row = 0; row < room.rows; row++) {
            if ((set >> row & 1) == 1) {
                trial.let(row, EVEN);
            }
        }
        for (int gone = 0; gone < bars; gone++) {
            trial.goOn(room);
        }
        return trial.areWillingRight(room);
    }

    private int waysBegun() {
        int ways = 0;
        for (int number = 0; number < 32 * MOST_ROWS; number++) {
            ways += oneIf(beganSo(number));
        }
        return ways;
    }

    private int leastBegun() {
        for (int number = 0; number < 32 * MOST_ROWS; number++) {
            if (beganSo(number)) {
                return number;
            }
        }
        return NONE;
    }

    /** Whether the number names a beginning (lesser ROW, greater ROW, what both SOUND) that leads to the RECORD. */
    private boolean beganSo(int number) {
        int lesser = number / 32;
        int greater = number / 4 % MOST_ROWS;
        if (lesser >= greater || !room.has(greater)) {
            return false;
        }
        trial.beginWith(night.crowd.armRows);
        trial.let(lesser, number / 2 % 2 == 1 ? EVEN : ODD);
        trial.let(greater, number % 2 == 1 ? EVEN : ODD);
        for (int gone = 0; gone < night.recorded; gone++) {
            trial.goOn(room);
            if (trial.palmsRight(room) != night.recordedAt(gone)) {
                return false;
            }
        }
        return true;
    }

    private int nightsTold(int bars, int seed, int what) {
        Draws draws = new Draws(seed);
        int won = 0;
        trial.takeFrom(night.crowd);
        for (int gone = 0; gone < bars; gone++) {
            happen(draws);
            trial.goOn(room);
            won += oneIf(2 * trial.palmsRight(room) > room.allPalms());
        }
        if (what == 0) {
            return trial.palmsRight(room);
        }
        return what == 1 ? won : draws.seed;
    }

    private void happen(Draws draws) {
        switch (draws.next(6)) {
            case 0:
                trial.leaveBeatOut(room);
                break;
            case 1:
                trial.let(draws.next(room.rows), EVEN);
                break;
            case 2:
                trial.armRows = draws.next(MOST_ROWS + 1);
                break;
            default:
                break;
        }
    }

    /** THE PAGE: letters by their codes, and how far they go as a HALL. */
    private static final class Page {
        private final int[] codes;
        private int length;

        Page() {
            codes = new int[MOST_LETTERS];
            length = 0;
        }

        boolean write(int code) {
            if (length < 0 || length >= codes.length) {
                return false;
            }
            codes[length] = code;
            length++;
            return true;
        }

        void wipe() {
            length = 0;
        }

        int codeAt(int place) {
            return within(place, 0, codes.length - 1) ? codes[place] : 0;
        }

        int firstFault() {
            int closed = NONE;
            for (int place = 0; place < length; place++) {
                if (!fits(place, closed)) {
                    return place;
                }
                if (codeAt(place) == ';') {
                    closed = place;
                }
            }
            return length;
        }

        boolean isWhole() {
            return length > 1 && firstFault() == length && codeAt(length - 2) == ';';
        }

        /** A ROW and the sign behind it take four places, so the place tells what is due. */
        private boolean fits(int place, int closed) {
            int code = codeAt(place);
            if (closed != NONE) {
                return place == closed + 1 && within(code, '0', '0' + MOST_LATE);
            }
            switch (place % 4) {
                case 0: return kindBy(code) != NONE;
                case 1: return within(code, '1', '9');
                case 2: return within(code, '0', '9');
                default: return followsRow(code, place / 4 + 1);
            }
        }

        private static boolean followsRow(int code, int rowsAhead) {
            if (code == ',') {
                return rowsAhead < MOST_ROWS;
            }
            return code == ';' && rowsAhead >= LEAST_ROWS;
        }

        static int kindBy(int code) {
            return KIND_LETTERS.indexOf((char) code);
        }
    }

    /** THE HALL: what its text tells; without ROWS there is none. */
    private static final class Hall {
        private final int[] kinds;
        private final int[] palms;
        private final int[] strengths;
        private int rows;
        private int late;

        Hall() {
            kinds = new int[MOST_ROWS];
            palms = new int[MOST_ROWS];
            strengths = new int[MOST_ROWS];
            rows = 0;
            late = 0;
        }

        /** The page must be whole: a text of n ROWS has 4 n + 1 letters. */
        void read(Page page) {
            rows = Math.min(page.length / 4, MOST_ROWS);
            for (int row = 0; row < rows; row++) {
                kinds[row] = Page.kindBy(page.codeAt(4 * row));
                palms[row] = page.codeAt(4 * row + 1) - '0';
                strengths[row] = page.codeAt(4 * row + 2) - '0';
            }
            late = page.codeAt(4 * rows) - '0';
        }

        boolean isThere() {
            return rows > 0;
        }

        boolean has(int row) {
            return row >= 0 && row < rows;
        }

        int kindOf(int row) {
            return row >= 0 && row < rows ? kinds[row] : NONE;
        }

        int palmsOf(int row) {
            return row >= 0 && row < rows ? palms[row] : 0;
        }

        int strengthOf(int row) {
            return row >= 0 && row < rows ? strengths[row] : 0;
        }

        int lag(int row) {
            return late > 0 ? row / late : 0;
        }

        boolean isOf(int row, int kind) {
            int own = kindOf(row);
            return kind == CLAPPER || kind == own || kind == STUBBORN && own == DEAF;
        }

        int allPalms() {
            int sum = 0;
            for (int row = 0; row < rows; row++) {
                sum += palms[row];
            }
            return sum;
        }
    }

    /** The crowd at one moment, or as it would be: what SOUNDS, BARS clapped, the ARM. */
    private static final class Crowd {
        private final int[] sounds;
        private final int[] clapped;
        private final int[] next;
        private int armRows;

        Crowd() {
            sounds = new int[MOST_ROWS];
            clapped = new int[MOST_ROWS];
            next = new int[MOST_ROWS];
            armRows = 0;
        }

        void takeFrom(Crowd other) {
            for (int row = 0; row < MOST_ROWS; row++) {
                sounds[row] = other.sounds[row];
                clapped[row] = other.clapped[row];
            }
            armRows = other.armRows;
        }

        void beginWith(int arm) {
            for (int row = 0; row < MOST_ROWS; row++) {
                sounds[row] = ALL;
                clapped[row] = 0;
            }
            armRows = arm;
        }

        int soundOf(int row) {
            return row >= 0 && row < MOST_ROWS ? sounds[row] : NOTHING;
        }

        int clappedOf(int row) {
            return row >= 0 && row < MOST_ROWS ? clapped[row] : 0;
        }

        /** BARS are counted since a ROW SOUNDED 0 last, so with 0 they are counted anew. */
        void let(int row, int sound) {
            if (row < 0 || row >= MOST_ROWS) {
                return;
            }
            sounds[row] = sound;
            if (sound == NOTHING) {
                clapped[row] = 0;
            }
        }

        boolean isTired(Hall hall, int row) {
            int strength = hall.strengthOf(row);
            return strength > 0 && clappedOf(row) >= strength;
        }

        boolean seesArm(int row) {
            return row < armRows;
        }

        /** A BAR goes by: whether any ROW SOUNDS otherwise than it did. */
        boolean goOn(Hall hall) {
            for (int row = 0; row < hall.rows; row++) {
                next[row] = soundNext(hall, row);
            }
            boolean changed = false;
            for (int row = 0; row < hall.rows; row++) {
                changed = changed || next[row] != sounds[row];
                let(row, next[row]);
                clapped[row] += oneIf(next[row] != NOTHING);
            }
            return changed;
        }

        private int soundNext(Hall hall, int row) {
            if (isTired(hall, row)) {
                return NOTHING;
            }
            int own = soundOf(row);
            if (own == NOTHING) {
                return ALL;
            }
            if (hall.isOf(row, STUBBORN)) {
                return own;
            }
            if (hall.kindOf(row) == FOLLOWING && seesArm(row)) {
                return EVEN;
            }
            return soundOfMore(hall, row);
        }

        private int soundOfMore(Hall hall, int row) {
            int odd = 0;
            int even = 0;
            for (int near = row - 1; near <= row + 1; near++) {
                odd += palmsThatSound(hall, near, ODD);
                even += palmsThatSound(hall, near, EVEN);
            }
            if (odd != even) {
                return odd > even ? ODD : EVEN;
            }
            return hall.kindOf(row) == EASY ? ALL : soundOf(row);
        }

        /** What SOUNDS is a set of two bits, ODD and EVEN; ALL is both. Beside the outermost ROWS there is nobody. */
        private int palmsThatSound(Hall hall, int row, int half) {
            if (row < 0 || row >= hall.rows) {
                return 0;
            }
            return (sounds[row] & half) != 0 ? hall.palms[row] : 0;
        }

        void leaveBeatOut(Hall hall) {
            for (int row = 0; row < hall.rows; row++) {
                if (hall.kindOf(row) != STUBBORN) {
                    sounds[row] = swapped(sounds[row]);
                }
            }
        }

        int palmsRight(Hall hall) {
            int right = 0;
            for (int row = 0; row < hall.rows; row++) {
                if (sounds[row] == EVEN) {
                    right += hall.palmsOf(row);
                }
            }
            return right;
        }

        boolean areWillingRight(Hall hall) {
            for (int row = 0; row < hall.rows; row++) {
                if (sounds[row] != EVEN && !hall.isOf(row, STUBBORN)) {
                    return false;
                }
            }
            return true;
        }

        int loudness(Hall hall, int row, int beat) {
            int half = beat % 2 == 0 ? ODD : EVEN;
            int sum = 0;
            for (int near = row - 1; near <= row + 1; near++) {
                sum += palmsThatSound(hall, near, half);
            }
            return sum + palmsThatSound(hall, row - 2, half) / 2 + palmsThatSound(hall, row + 2, half) / 2;
        }
    }

    /** All that an IMAGE keeps. */
    private static final class Night {
        private final Crowd crowd;
        private final int[] rightBehindBar;
        private int recorded;
        private int barsGone;
        private int beatsLeftOut;

        Night() {
            crowd = new Crowd();
            rightBehindBar = new int[MOST_RECORDED];
            recorded = 0;
            barsGone = 0;
            beatsLeftOut = 0;
        }

        void startAnew() {
            crowd.beginWith(0);
            recorded = 0;
            barsGone = 0;
            beatsLeftOut = 0;
        }

        void takeFrom(Night other) {
            crowd.takeFrom(other.crowd);
            for (int place = 0; place < MOST_RECORDED; place++) {
                rightBehindBar[place] = other.rightBehindBar[place];
            }
            recorded = other.recorded;
            barsGone = other.barsGone;
            beatsLeftOut = other.beatsLeftOut;
        }

        boolean noteDown(int right) {
            if (!within(recorded, 0, MOST_RECORDED - 1)) {
                return false;
            }
            rightBehindBar[recorded] = right;
            recorded++;
            return true;
        }

        int recordedAt(int place) {
            return within(place, 0, MOST_RECORDED - 1) ? rightBehindBar[place] : 0;
        }
    }

    /** DRAWS by a SEED. */
    private static final class Draws {
        private int seed;

        Draws(int seed) {
            this.seed = seed;
        }

        int next(int of) {
            seed = (int) ((1103515245L * seed + 12345L) % 2147483648L);
            return of > 0 ? seed / 65536 % of : 0;
        }
    }
}
