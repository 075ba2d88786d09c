import java.util.Random;

/** Runs of 512 calls on one object, by chance but the same each time, against the model in Model.java. */
public final class RandomRunsTest {
    private static final int RUNS = 3000, CALLS = 512;
    /** Stands behind the text of a HALL: it is to be read. */
    private static final char READ = '\n';
    private static final int[] ODD_NUMBERS = {Integer.MIN_VALUE, Integer.MIN_VALUE + 1, -102, -2, -1, 13, 31, 36, 37, 59,
        60, 61, 72, 73, 126, 127, 128, 255, 65536, Integer.MAX_VALUE - 1, Integer.MAX_VALUE};

    private RandomRunsTest() {
    }

    public static void main(String[] args) {
        for (int run = 0; run < RUNS && Due.wrongSoFar() == 0; run++) {
            oneRun(run);
        }
        Due.end();
    }

    private static void oneRun(int run) {
        Random by = new Random(run);
        ClappedWrong x = new ClappedWrong();
        Model m = new Model();
        String pending = by.nextInt(8) == 0 ? "" : hallText(by);
        for (int call = 0; call < CALLS; call++) {
            if (!pending.isEmpty()) {
                int code = pending.charAt(0);
                pending = pending.substring(1);
                if (code == READ) {
                    Due.due(run + "/" + call + " hall", x.hall(), m.hall());
                } else {
                    Due.due(run + "/" + call + " letter " + code, x.letter(code), m.letter(code));
                }
            } else if (by.nextInt(120) == 0) {
                Due.due(run + "/" + call + " blank", x.blank(), m.blank());
                pending = hallText(by);
            } else {
                oneCall(run + "/" + call, by, x, m);
            }
        }
    }

    private static String hallText(Random by) {
        StringBuilder text = new StringBuilder();
        int rows = 3 + by.nextInt(6);
        String kinds = by.nextInt(3) == 0 ? "ccfe" : "csfed";
        boolean tiring = by.nextBoolean();
        for (int row = 0; row < rows; row++) {
            text.append(row == 0 ? "" : ",").append(kinds.charAt(by.nextInt(kinds.length())));
            text.append(1 + by.nextInt(by.nextBoolean() ? 3 : 9)).append(tiring ? by.nextInt(10) : 0);
        }
        text.append(';').append(by.nextInt(4));
        if (by.nextInt(6) == 0) {
            text.setCharAt(by.nextInt(text.length()), "csfed0123456789,;x ".charAt(by.nextInt(19)));
        }
        return text.append(READ).toString();
    }

    private static int number(Random by, int least, int most) {
        if (by.nextInt(12) == 0) {
            return ODD_NUMBERS[by.nextInt(ODD_NUMBERS.length)];
        }
        return least - (by.nextInt(15) == 0 ? 1 : 0) + by.nextInt(most - least + 1) + (by.nextInt(15) == 0 ? 1 : 0);
    }

    private static void oneCall(String at, Random by, ClappedWrong x, Model m) {
        int which = by.nextInt(26);
        int row = number(by, 0, Math.max(0, m.now.rows.size() - 1));
        int a, b, c;
        switch (which) {
            case 0: a = number(by, 1, 126); Due.due(at + " letter " + a, x.letter(a), m.letter(a)); break;
            case 1: if (by.nextInt(5) == 0) { Due.due(at + " blank", x.blank(), m.blank()); } break;
            case 2: Due.due(at + " fault", x.fault(), m.fault()); break;
            case 3: Due.due(at + " hall", x.hall(), m.hall()); break;
            case 4: a = number(by, 0, 8); Due.due(at + " about", x.about(row, a), m.about(row, a)); break;
            case 5: a = number(by, 0, 4); Due.due(at + " as", x.as(row, a), m.as(row, a)); break;
            case 6: case 24: a = number(by, 0, 3); Due.due(at + " clap", x.clap(row, a), m.clap(row, a)); break;
            case 7: a = number(by, 0, 8); Due.due(at + " arm " + a, x.arm(a), m.arm(a)); break;
            case 8: case 23: Due.due(at + " bar", x.bar(), m.bar()); break;
            case 9: Due.due(at + " skip", x.skip(), m.skip()); break;
            case 10: a = number(by, 0, 3); Due.due(at + " loud", x.loud(row, a), m.loud(row, a)); break;
            case 11: Due.due(at + " rest", x.rest(), m.rest()); break;
            case 12: a = number(by, 0, 30); Due.due(at + " outcome", x.outcome(a), m.outcome(a)); break;
            case 13: a = number(by, 1, 12); b = number(by, 0, 1); Due.due(at + " trick", x.trick(a, b), m.trick(a, b)); break;
            case 14: a = number(by, 0, by.nextInt(12) + 1); b = number(by, 0, 1);
                Due.due(at + " turned", x.turned(a, b), m.turned(a, b)); break;
            case 15: a = by.nextBoolean() ? Math.max(0, m.outcome(0)) : number(by, 0, 72);
                Due.due(at + " record", x.record(a), m.record(a)); break;
            case 16: if (by.nextInt(3) == 0) { Due.due(at + " forget", x.forget(), m.forget()); } break;
            case 17: a = number(by, 0, 1); Due.due(at + " began", x.began(a), m.began(a)); break;
            case 18: a = number(by, 1, 60); b = by.nextInt() >>> by.nextInt(32); c = number(by, 0, 2);
                Due.due(at + " nights", x.nights(a, b, c), m.nights(a, b, c)); break;
            case 19: Due.due(at + " image", x.image(), m.image()); break;
            case 20: Due.due(at + " restore", x.restore(), m.restore()); break;
            case 21: a = number(by, 0, 11); Due.due(at + " count " + a, x.count(a), m.count(a)); break;
            case 25: a = by.nextInt(); b = by.nextInt(); Due.due(at + " about", x.about(a, b), m.about(a, b)); break;
            default: Due.due(at + " digest", x.digest(), m.digest()); break;
        }
    }
}
