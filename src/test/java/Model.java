import java.util.ArrayList;
import java.util.List;

/**
 * The document once more, written in another way than the program: what SOUNDS is a set of beats, the BARS a ROW has
 * clapped are a list, all that is kept is copied whole. Only for tests: slow and wasteful.
 */
final class Model {
    static final int NONE = -1, UNKNOWN = -101, OUTSIDE = -102, STATE = -103, FULL = -104;

    static final class Row {
        char kind;
        int palms, strength, number;
        boolean[] beats = {true, true, true, true};
        List<Boolean> clappedBars = new ArrayList<>();

        Row copy() {
            Row r = new Row();
            r.kind = kind;
            r.palms = palms;
            r.strength = strength;
            r.number = number;
            r.beats = beats.clone();
            r.clappedBars = new ArrayList<>(clappedBars);
            return r;
        }

        int sounds() {
            return (beats[0] && beats[2] ? 1 : 0) + (beats[1] && beats[3] ? 2 : 0);
        }

        void sound(int s) {
            beats = new boolean[] {s == 1 || s == 3, s == 2 || s == 3, s == 1 || s == 3, s == 2 || s == 3};
            if (s == 0) {
                clappedBars.clear();
            }
        }

        boolean tired() {
            return strength != 0 && clappedBars.size() >= strength;
        }

        boolean stubborn() {
            return kind == 's' || kind == 'd';
        }
    }

    static final class Scene {
        List<Row> rows = new ArrayList<>();
        int arm, bars, leftOut;
        List<Integer> record = new ArrayList<>();

        Scene copy() {
            Scene s = new Scene();
            for (Row r : rows) {
                s.rows.add(r.copy());
            }
            s.arm = arm;
            s.bars = bars;
            s.leftOut = leftOut;
            s.record = new ArrayList<>(record);
            return s;
        }

        int right() {
            return rows.stream().filter(r -> r.sounds() == 2).mapToInt(r -> r.palms).sum();
        }

        int all() {
            return rows.stream().mapToInt(r -> r.palms).sum();
        }

        String heard() {
            StringBuilder b = new StringBuilder();
            rows.forEach(r -> b.append(r.sounds()));
            return b.toString();
        }

        Scene behind(int n) {
            Scene s = copy();
            for (int i = 0; i < n; i++) {
                s.bar();
            }
            return s;
        }

        void bar() {
            bars++;
            Scene ahead = copy();
            for (Row r : rows) {
                int was = r.sounds();
                int is;
                if (r.tired()) {
                    is = 0;
                } else if (was == 0) {
                    is = 3;
                } else if (r.stubborn()) {
                    is = was;
                } else if (r.kind == 'f' && r.number < arm) {
                    is = 2;
                } else {
                    int onOne = 0, onTwo = 0;
                    for (Row o : ahead.rows) {
                        if (Math.abs(o.number - r.number) <= 1) {
                            onOne += o.beats[0] ? o.palms : 0;
                            onTwo += o.beats[1] ? o.palms : 0;
                        }
                    }
                    is = onOne > onTwo ? 1 : onTwo > onOne ? 2 : r.kind == 'e' ? 3 : was;
                }
                r.sound(is);
                if (is != 0) {
                    r.clappedBars.add(true);
                }
            }
        }

        void leaveOut() {
            leftOut++;
            for (Row r : rows) {
                if (r.kind != 's') {
                    r.beats = new boolean[] {r.beats[1], r.beats[2], r.beats[3], r.beats[0]};
                }
            }
        }

        int loud(int row, int beat) {
            int sum = 0;
            for (Row o : rows) {
                int off = Math.abs(o.number - row);
                if (o.beats[beat] && off <= 2) {
                    sum += off == 2 ? o.palms / 2 : o.palms;
                }
            }
            return sum;
        }
    }

    String page = "";
    Scene now = new Scene();
    Scene kept = null;
    int late, halls, turnedDone, beganDone;

    private static List<String> dueSigns(int rows) {
        List<String> signs = new ArrayList<>();
        for (int i = 0; i < rows; i++) {
            signs.add("csfed");
            signs.add("123456789");
            signs.add("0123456789");
            signs.add(i == rows - 1 ? ";" : ",");
        }
        signs.add("0123");
        return signs;
    }

    private static boolean begins(String text, List<String> signs) {
        for (int i = 0; i < text.length(); i++) {
            if (i >= signs.size() || signs.get(i).indexOf(text.charAt(i)) < 0) {
                return false;
            }
        }
        return true;
    }

    private boolean there() {
        return !now.rows.isEmpty();
    }

    private boolean names(int row) {
        return row >= 0 && row < now.rows.size();
    }

    private int lag(int row) {
        return late == 0 ? 0 : row / late;
    }

    private int heardBy(int row, int s) {
        return lag(row) % 2 == 1 && (s == 1 || s == 2) ? 3 - s : s;
    }

    int letter(int code) {
        if (code < 1 || code > 126) {
            return OUTSIDE;
        }
        if (page.length() == 36) {
            return FULL;
        }
        page += (char) code;
        return page.length();
    }

    int blank() {
        int had = page.length();
        page = "";
        return had;
    }

    int fault() {
        for (int length = page.length(); length > 0; length--) {
            for (int rows = 3; rows <= 8; rows++) {
                if (begins(page.substring(0, length), dueSigns(rows))) {
                    return length;
                }
            }
        }
        return 0;
    }

    int hall() {
        if (!page.matches("[csfed][1-9][0-9](,[csfed][1-9][0-9]){2,7};[0-3]")) {
            return STATE;
        }
        String[] parts = page.split(";");
        late = parts[1].charAt(0) - '0';
        now = new Scene();
        for (String text : parts[0].split(",")) {
            Row r = new Row();
            r.kind = text.charAt(0);
            r.palms = text.charAt(1) - '0';
            r.strength = text.charAt(2) - '0';
            r.number = now.rows.size();
            now.rows.add(r);
        }
        kept = null;
        page = "";
        halls++;
        return now.rows.size();
    }

    int about(int row, int what) {
        if (!names(row)) {
            return UNKNOWN;
        }
        if (what < 0 || what > 8) {
            return OUTSIDE;
        }
        Row r = now.rows.get(row);
        int[] told = {"csfed".indexOf(r.kind), r.palms, r.strength, lag(row), r.sounds(), heardBy(row, r.sounds()),
            r.clappedBars.size(), r.tired() ? 1 : 0, row < now.arm ? 1 : 0};
        return told[what];
    }

    int as(int row, int kind) {
        if (!names(row)) {
            return UNKNOWN;
        }
        if (kind < 0 || kind > 4) {
            return OUTSIDE;
        }
        String takenAs = "c" + now.rows.get(row).kind + (now.rows.get(row).kind == 'd' ? "s" : "");
        return takenAs.indexOf("csfed".charAt(kind)) >= 0 ? row : NONE;
    }

    int clap(int row, int clap) {
        if (!names(row)) {
            return UNKNOWN;
        }
        if (clap < 0 || clap > 3) {
            return OUTSIDE;
        }
        int did = about(row, 5);
        now.rows.get(row).sound(heardBy(row, clap));
        return did;
    }

    int arm(int rows) {
        if (rows < 0 || rows > 8) {
            return OUTSIDE;
        }
        if (!there()) {
            return STATE;
        }
        int was = now.arm;
        now.arm = rows;
        return was;
    }

    int bar() {
        if (!there()) {
            return STATE;
        }
        now.bar();
        return now.right();
    }

    int skip() {
        if (!there()) {
            return STATE;
        }
        now.leaveOut();
        return now.right();
    }

    int loud(int row, int beat) {
        if (!names(row)) {
            return UNKNOWN;
        }
        return beat < 0 || beat > 3 ? OUTSIDE : now.loud(row, beat);
    }

    int rest() {
        if (!there()) {
            return STATE;
        }
        for (int n = 0; n <= 30; n++) {
            if (now.behind(n).heard().equals(now.behind(n + 1).heard())) {
                return n;
            }
        }
        return NONE;
    }

    int outcome(int bars) {
        if (bars < 0 || bars > 30) {
            return OUTSIDE;
        }
        return there() ? now.behind(bars).right() : STATE;
    }

    int trick(int bars, int what) {
        if (bars < 1 || bars > 12 || what < 0 || what > 1) {
            return OUTSIDE;
        }
        if (!there()) {
            return STATE;
        }
        int without = now.behind(bars).right();
        int most = -1, best = -1;
        for (int n = bars - 1; n >= 0; n--) {
            Scene s = now.behind(n);
            s.leaveOut();
            int right = s.behind(bars - n).right();
            if (right >= most) {
                most = right;
                best = n;
            }
        }
        if (without >= most) {
            return what == 0 ? NONE : without;
        }
        return what == 0 ? best : most;
    }

    int turned(int bars, int what) {
        if (bars < 0 || bars > 12 || what < 0 || what > 1) {
            return OUTSIDE;
        }
        if (!there() || turnedDone == 30) {
            return STATE;
        }
        turnedDone++;
        for (int size = 0; size <= now.rows.size(); size++) {
            for (int set = 0; set < 1 << now.rows.size(); set++) {
                if (Integer.bitCount(set) == size) {
                    Scene s = now.copy();
                    for (Row r : s.rows) {
                        if ((set & 1 << r.number) != 0) {
                            r.sound(2);
                        }
                    }
                    if (s.behind(bars).rows.stream().allMatch(r -> r.stubborn() || r.sounds() == 2)) {
                        return what == 0 ? size : set;
                    }
                }
            }
        }
        return NONE;
    }

    int record(int palms) {
        if (palms < 0 || palms > 72) {
            return OUTSIDE;
        }
        if (now.record.size() == 8) {
            return FULL;
        }
        now.record.add(palms);
        return now.record.size();
    }

    int forget() {
        int had = now.record.size();
        now.record.clear();
        return had;
    }

    int began(int what) {
        if (what < 0 || what > 1) {
            return OUTSIDE;
        }
        if (!there() || beganDone == 30) {
            return STATE;
        }
        beganDone++;
        List<Integer> ways = new ArrayList<>();
        for (int a = 0; a < now.rows.size(); a++) {
            for (int b = a + 1; b < now.rows.size(); b++) {
                for (int s = 1; s <= 2; s++) {
                    for (int t = 1; t <= 2; t++) {
                        if (leadsToRecord(a, s, b, t)) {
                            ways.add(32 * a + 4 * b + (s == 2 ? 2 : 0) + (t == 2 ? 1 : 0));
                        }
                    }
                }
            }
        }
        return what == 0 ? ways.size() : ways.stream().mapToInt(w -> w).min().orElse(NONE);
    }

    private boolean leadsToRecord(int a, int s, int b, int t) {
        Scene n = now.copy();
        for (Row r : n.rows) {
            r.clappedBars.clear();
            r.sound(r.number == a ? s : r.number == b ? t : 3);
        }
        List<Integer> came = new ArrayList<>();
        for (int i = 0; i < now.record.size(); i++) {
            n.bar();
            came.add(n.right());
        }
        return came.equals(now.record);
    }

    private long seedNow;

    private int draw(int of) {
        seedNow = (seedNow * 1103515245L + 12345L) & 0x7fffffffL;
        return (int) ((seedNow >> 16) % of);
    }

    int nights(int bars, int seed, int what) {
        if (bars < 1 || bars > 60 || seed < 0 || what < 0 || what > 2) {
            return OUTSIDE;
        }
        if (!there()) {
            return STATE;
        }
        seedNow = seed;
        Scene s = now.copy();
        int often = 0;
        for (int i = 0; i < bars; i++) {
            int d = draw(6);
            if (d == 0) {
                s.leaveOut();
            }
            if (d == 1) {
                s.rows.get(draw(s.rows.size())).sound(2);
            }
            if (d == 2) {
                s.arm = draw(9);
            }
            s.bar();
            often += s.right() > s.all() / 2.0 ? 1 : 0;
        }
        return what == 0 ? s.right() : what == 1 ? often : (int) seedNow;
    }

    int image() {
        if (!there()) {
            return STATE;
        }
        kept = now.copy();
        return now.bars;
    }

    int restore() {
        if (kept == null) {
            return STATE;
        }
        now = kept.copy();
        return now.bars;
    }

    int count(int what) {
        int[] told = {now.rows.size(), late, now.all(), now.right(), now.arm, now.bars, now.leftOut, now.record.size(),
            page.length(), halls, turnedDone, beganDone};
        return what < 0 || what > 11 ? OUTSIDE : told[what];
    }

    long digest() {
        List<Integer> told = new ArrayList<>();
        for (int row = 0; row < now.rows.size(); row++) {
            for (int what = 0; what <= 8; what++) {
                told.add(about(row, what));
            }
            for (int beat = 0; beat <= 3; beat++) {
                told.add(loud(row, beat));
            }
        }
        if (there()) {
            told.add(rest());
            told.add(outcome(4));
            told.add(trick(4, 0));
            told.add(trick(4, 1));
        }
        page.chars().forEach(told::add);
        for (int what = 0; what <= 11; what++) {
            told.add(count(what));
        }
        long h = 773;
        for (int number : told) {
            h = 31 * h + number;
        }
        return h;
    }
}
