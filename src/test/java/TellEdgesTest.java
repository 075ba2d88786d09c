import java.math.BigInteger;
import java.util.ArrayList;
import java.util.List;

/** Boundary cases of what is told of all, promises 21 to 24: a test for each sentence. */
public final class TellEdgesTest {
    private static final int NONE = -1, OUTSIDE = -102, STATE = -103;
    private static final int MIN = Integer.MIN_VALUE, MAX = Integer.MAX_VALUE;
    private static final String TELLING = "s10,s20,s40;0";

    private TellEdgesTest() {
    }

    public static void main(String[] args) {
        imageNoHall();
        imageBars();
        imageTheLatest();
        imageKeepsWhatSounds();
        imageKeepsBarsClapped();
        imageKeepsTheArm();
        imageKeepsBarsAndBeats();
        imageKeepsTheRecord();
        imageKeepsNothingElse();
        restoreNoneKept();
        restoreAnotherHall();
        restoreAgain();
        countAtFirst();
        countLeastAndMost();
        countOfHalls();
        countRefused();
        digestNoHall();
        digestOfAFullPage();
        digestWorkedOut();
        digestOfNegativeNumbers();
        digestWraps();
        digestChangesNothing();
        Due.end();
    }

    private static void due(String call, long got, long want) {
        Due.due(call, got, want);
    }

    private static ClappedWrong made() {
        return new ClappedWrong();
    }

    private static void imageNoHall() {
        Due.sentence("Promise 21: STATE: no HALL");
        ClappedWrong x = made();
        due("image", x.image(), STATE);
        due("restore", x.restore(), STATE);
        Due.write(x, TELLING);
        due("a page is no hall yet", x.image(), STATE);
        x.hall();
        due("nothing was kept", x.restore(), STATE);
    }

    private static void imageBars() {
        Due.sentence("Promise 21: An IMAGE is kept: BARS; Promise 22: It goes on from the IMAGE: BARS");
        ClappedWrong x = Due.with(TELLING);
        due("image of none", x.image(), 0);
        due("restore", x.restore(), 0);
        Due.bars(x, 300);
        due("image of many", x.image(), 300);
        x.bar();
        due("restore", x.restore(), 300);
        due("bars", x.count(5), 300);
        due("it goes on", x.bar(), 0);
        due("bars", x.count(5), 301);
    }

    private static void imageTheLatest() {
        Due.sentence("Promise 21: An IMAGE is kept (one; the latest)");
        ClappedWrong x = Due.with(TELLING);
        x.image();
        x.bar();
        x.image();
        x.bar();
        due("the latest", x.restore(), 1);
        due("no other behind it", x.restore(), 1);
    }

    private static void imageKeepsWhatSounds() {
        Due.sentence("An IMAGE keeps what SOUNDS");
        ClappedWrong x = Due.with("c10,c20,c30,c40,c50,c60,c70,c80;1", "01230123");
        x.image();
        Due.let(x, "33333333");
        x.restore();
        Due.dueText("what sounds", Due.sounds(x), "01230123");
    }

    private static void imageKeepsBarsClapped() {
        Due.sentence("An IMAGE keeps how many BARS each has clapped");
        ClappedWrong x = Due.with("s13,s12,s10;0", "333");
        x.bar();
        x.clap(1, 0);
        x.image();
        x.bar();
        x.bar();
        x.restore();
        Due.dueText("clapped", Due.each(x, 6), "101");
        Due.bars(x, 2);
        Due.dueText("tired by what was kept", Due.each(x, 7), "110");
    }

    private static void imageKeepsTheArm() {
        Due.sentence("An IMAGE keeps the ARM");
        for (int rows = 0; rows <= 8; rows++) {
            ClappedWrong x = Due.with(TELLING);
            x.arm(rows);
            x.image();
            x.arm(8 - rows);
            x.restore();
            due("the arm", x.count(4), rows);
        }
    }

    private static void imageKeepsBarsAndBeats() {
        Due.sentence("An IMAGE keeps how many BARS went by, BEATS that were left out");
        ClappedWrong x = Due.with(TELLING);
        x.image();
        x.bar();
        x.skip();
        x.restore();
        due("no bars", x.count(5), 0);
        due("no beats", x.count(6), 0);
        Due.bars(x, 3);
        x.skip();
        x.skip();
        x.image();
        x.bar();
        x.skip();
        x.restore();
        due("bars", x.count(5), 3);
        due("beats", x.count(6), 2);
    }

    private static void imageKeepsTheRecord() {
        Due.sentence("An IMAGE keeps the RECORD (empty, full)");
        ClappedWrong empty = Due.with(TELLING);
        empty.image();
        empty.record(6);
        empty.restore();
        due("empty", empty.count(7), 0);
        due("all ways", empty.began(0), 12);
        ClappedWrong full = Due.with("s17,s20,s40;0");
        for (int palms : new int[] {5, 5, 5, 5, 5, 5, 5, 4}) {
            full.record(palms);
        }
        full.image();
        full.forget();
        for (int bar = 0; bar < 8; bar++) {
            full.record(72);
        }
        full.restore();
        due("full", full.count(7), 8);
        due("each of its bars", full.began(1), 11);
        due("no room", full.record(0), -104);
    }

    private static void imageKeepsNothingElse() {
        Due.sentence("An IMAGE keeps .. the RECORD (not THE PAGE, nor what was done)");
        ClappedWrong x = Due.with(TELLING);
        x.image();
        Due.write(x, "c10");
        x.turned(0, 0);
        x.began(0);
        x.restore();
        due("letters", x.count(8), 3);
        due("halls read", x.count(9), 1);
        due("turned", x.count(10), 1);
        due("began", x.count(11), 1);
    }

    private static void restoreNoneKept() {
        Due.sentence("Promise 22: STATE: none was kept");
        due("no hall", made().restore(), STATE);
        ClappedWrong x = Due.with("c10,f20,e30;1", "123");
        x.arm(1);
        x.bar();
        x.record(3);
        long before = x.digest();
        due("none", x.restore(), STATE);
        due("it changes nothing", x.digest(), before);
    }

    private static void restoreAnotherHall() {
        Due.sentence("Promise 22: STATE: there is another HALL since");
        for (String other : new String[] {TELLING, "c10,c10,c10;3", Due.rows(8, "f99", 1)}) {
            ClappedWrong x = Due.with(TELLING, "121");
            x.bar();
            x.image();
            Due.read(x, other);
            long before = x.digest();
            due("restore in " + other, x.restore(), STATE);
            due("it changes nothing", x.digest(), before);
            due("a new image", x.image(), 0);
            x.bar();
            due("restore", x.restore(), 0);
        }
        Due.sentence("Promise 22: there is another HALL since (a PAGE that was refused is none)");
        ClappedWrong x = Due.with(TELLING);
        x.bar();
        x.image();
        Due.write(x, "c10,c10;0");
        due("refused", x.hall(), STATE);
        due("restore", x.restore(), 1);
        ClappedWrong written = Due.with(TELLING);
        written.image();
        Due.write(written, TELLING);
        due("a page alone is none", written.restore(), 0);
    }

    private static void restoreAgain() {
        Due.sentence("Promise 22: It goes on from the IMAGE (which is kept)");
        ClappedWrong x = Due.with("c14,f25,e36,d13;1", "1213");
        x.arm(3);
        x.bar();
        x.record(2);
        x.image();
        long before = x.digest();
        for (int time = 0; time < 3; time++) {
            Due.bars(x, 2);
            x.skip();
            x.clap(0, 0);
            x.arm(0);
            x.forget();
            x.record(9);
            x.restore();
            due("as it was", x.digest(), before);
        }
    }

    private static void countAtFirst() {
        Due.sentence("Promise 23: what = 0 to 11 (at first)");
        ClappedWrong x = made();
        for (int what = 0; what <= 11; what++) {
            due("count " + what, x.count(what), 0);
        }
    }

    private static void countLeastAndMost() {
        Due.sentence("Promise 23: what = 0 to 11 (the least and the most)");
        int[] least = {3, 0, 3, 0, 0, 0, 0, 0, 0, 1, 0, 0};
        ClappedWrong x = Due.with("c10,c10,c10;0");
        for (int what = 0; what <= 11; what++) {
            due("count " + what, x.count(what), least[what]);
        }
        ClappedWrong y = Due.with(Due.rows(8, "c90", 3), "22222222");
        y.arm(8);
        Due.bars(y, 7);
        for (int time = 0; time < 30; time++) {
            y.turned(0, 0);
            y.began(0);
            y.record(72);
        }
        Due.write(y, "~".repeat(40));
        for (int beat = 0; beat < 6; beat++) {
            y.skip();
        }
        int[] most = {8, 3, 72, 72, 8, 7, 6, 8, 36, 1, 30, 30};
        for (int what = 0; what <= 11; what++) {
            due("count " + what, y.count(what), most[what]);
        }
    }

    private static void countOfHalls() {
        Due.sentence("Promise 23: 9 how often a HALL was read");
        ClappedWrong x = made();
        x.hall();
        due("refused ones are not", x.count(9), 0);
        for (int time = 1; time <= 20; time++) {
            Due.read(x, TELLING);
            due("halls", x.count(9), time);
            x.hall();
            due("refused ones are not", x.count(9), time);
        }
    }

    private static void countRefused() {
        Due.sentence("Promise 23: OUTSIDE");
        for (int what : new int[] {-1, 12, 13, -11, MIN, MAX}) {
            due("count " + what, made().count(what), OUTSIDE);
            due("count " + what, Due.with(TELLING).count(what), OUTSIDE);
        }
    }

    private static BigInteger mixed(List<Integer> numbers) {
        BigInteger h = BigInteger.valueOf(773);
        for (int number : numbers) {
            h = h.multiply(BigInteger.valueOf(31)).add(BigInteger.valueOf(number));
        }
        return h;
    }

    private static List<Integer> numbers(ClappedWrong x, String page) {
        List<Integer> all = new ArrayList<>();
        for (int row = 0; row < x.count(0); row++) {
            for (int what = 0; what <= 8; what++) {
                all.add(x.about(row, what));
            }
            for (int beat = 0; beat <= 3; beat++) {
                all.add(x.loud(row, beat));
            }
        }
        if (x.count(0) > 0) {
            all.addAll(List.of(x.rest(), x.outcome(4), x.trick(4, 0), x.trick(4, 1)));
        }
        page.chars().forEach(all::add);
        for (int what = 0; what <= 11; what++) {
            all.add(x.count(what));
        }
        return all;
    }

    private static void dueDigest(ClappedWrong x, String page) {
        due("digest", x.digest(), mixed(numbers(x, page)).longValue());
    }

    private static void digestNoHall() {
        Due.sentence("Promise 24: h is 773; with a HALL REST, .. (none without one)");
        ClappedWrong x = made();
        due("digest", x.digest(), mixed(List.of(0, 0, 0, 0, 0, 0, 0, 0, 0, 0, 0, 0)).longValue());
        x.record(5);
        x.letter(126);
        due("digest", x.digest(), mixed(List.of(126, 0, 0, 0, 0, 0, 0, 0, 1, 1, 0, 0, 0)).longValue());
    }

    private static void digestOfAFullPage() {
        Due.sentence("Promise 24: letters of THE PAGE");
        String page = "~c\u0001" + "x1;".repeat(11);
        ClappedWrong x = made();
        Due.write(x, page);
        dueDigest(x, page);
        x.blank();
        dueDigest(x, "");
        ClappedWrong y = Due.with("c10,f20,e30;1", "121");
        Due.write(y, page);
        dueDigest(y, page);
    }

    private static void digestWorkedOut() {
        Due.sentence("Promise 24: for each of these numbers, in order, 31 times h, and it");
        ClappedWrong x = Due.with("s12,d39,f50;1", "121");
        x.arm(1);
        Due.write(x, "e;");
        // row 0 is right in none, row 1 in each of 4 bars, row 2 is drawn to nobody; a beat left out turns 1 and 2
        List<Integer> all = new ArrayList<>();
        all.addAll(List.of(1, 1, 2, 0, 1, 1, 0, 0, 1, 3, 3, 3, 3));
        all.addAll(List.of(4, 3, 9, 1, 2, 1, 0, 0, 0, 6, 3, 6, 3));
        all.addAll(List.of(2, 5, 0, 2, 1, 1, 0, 0, 0, 5, 3, 5, 3));
        all.addAll(List.of(0, 3, 0, 5));
        all.addAll(List.of((int) 'e', (int) ';'));
        all.addAll(List.of(3, 1, 9, 3, 1, 0, 0, 0, 2, 1, 0, 0));
        due("digest", x.digest(), mixed(all).longValue());
    }

    private static void digestOfNegativeNumbers() {
        Due.sentence("Promise 24: REST, what trick() tells (NONE, too)");
        ClappedWrong x = Due.with("s11,s10,s10;0");
        x.bar();
        due("rest", x.rest(), NONE);
        due("trick", x.trick(4, 0), NONE);
        dueDigest(x, "");
    }

    private static void digestWraps() {
        Due.sentence("Promise 24: (as longs, wrapping)");
        int below = 0;
        for (int bars = 0; bars < 20; bars++) {
            ClappedWrong x = Due.with(Due.rows(8, "e99", 1), "11221322");
            Due.bars(x, bars);
            BigInteger whole = mixed(numbers(x, ""));
            Due.due("it does not fit a long", whole.bitLength() > 500);
            due("digest", x.digest(), whole.longValue());
            below += x.digest() < 0 ? 1 : 0;
        }
        Due.due("some are below 0, some are not", below > 0 && below < 20);
    }

    private static void digestChangesNothing() {
        Due.sentence("Promise 24: digest (it tells)");
        ClappedWrong x = Due.with("c14,f25,e36,d13;1", "1213");
        x.arm(2);
        x.bar();
        long first = x.digest();
        due("again", x.digest(), first);
        due("bars", x.count(5), 1);
        due("beats", x.count(6), 0);
    }
}
