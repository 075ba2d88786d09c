import java.math.BigInteger;

/** Boundary cases of the RECORD, of BEGAN and of NIGHTS, promises 17 to 20: a test for each sentence. */
public final class RecordEdgesTest {
    private static final int NONE = -1, OUTSIDE = -102, STATE = -103, FULL = -104;
    private static final int MIN = Integer.MIN_VALUE, MAX = Integer.MAX_VALUE;
    private static final int MOST_DONE = 30;
    /** Stubborn ones, so that the PALMS of a RECORD tell who SOUNDED 2. */
    private static final String TELLING = "s10,s20,s40;0";

    private RecordEdgesTest() {
    }

    public static void main(String[] args) {
        recordPalms();
        recordFull();
        recordWithoutHall();
        forgetOfNone();
        forgetOfAll();
        beganByAnEmptyRecord();
        beganByEachRecord();
        beganLeastAndGreatestNumber();
        beganByEightBars();
        beganUnlikeRows();
        beganNobodyHasClapped();
        beganTheArmAsNow();
        beganNoWay();
        beganRefused();
        beganThirtyTimes();
        beganRefusedIsNotDone();
        nightsBars();
        nightsSeed();
        nightsSeedWraps();
        nightsDrawOfSix();
        nightsDrawOfAllRows();
        nightsDrawOfNine();
        nightsMoreThanHalf();
        nightsAsPlayed();
        nightsAsTheyWouldBe();
        nightsRefused();
        Due.end();
    }

    private static void due(String call, long got, long want) {
        Due.due(call, got, want);
    }

    private static ClappedWrong made() {
        return new ClappedWrong();
    }

    private static ClappedWrong recorded(String hall, int... palms) {
        ClappedWrong x = Due.with(hall);
        for (int each : palms) {
            x.record(each);
        }
        return x;
    }

    private static void recordPalms() {
        Due.sentence("Promise 17: OUTSIDE: palms (0 to 72)");
        ClappedWrong x = Due.with(TELLING);
        for (int palms : new int[] {-1, 73, 128, MIN, MAX}) {
            due("palms " + palms, x.record(palms), OUTSIDE);
        }
        due("nothing came", x.count(7), 0);
        due("the least", x.record(0), 1);
        due("the most", x.record(72), 2);
    }

    private static void recordFull() {
        Due.sentence("A RECORD (8 BARS at most); Promise 17: OUTSIDE: palms (0 to 72); FULL");
        ClappedWrong x = Due.with(TELLING);
        for (int bars = 1; bars <= 8; bars++) {
            due("bar", x.record(6), bars);
        }
        due("bar 9", x.record(0), FULL);
        due("bar 9", x.record(72), FULL);
        for (int palms : new int[] {-1, 73, MIN, MAX}) {
            due("OUTSIDE first", x.record(palms), OUTSIDE);
        }
        due("bars", x.count(7), 8);
        due("they change nothing", x.began(1), 43);
    }

    private static void recordWithoutHall() {
        Due.sentence("Promise 17: OUTSIDE; FULL (no STATE: a RECORD needs no HALL)");
        ClappedWrong x = made();
        for (int bars = 1; bars <= 8; bars++) {
            due("bar", x.record(72), bars);
        }
        due("bar 9", x.record(0), FULL);
        due("OUTSIDE first", x.record(73), OUTSIDE);
        due("forget", x.forget(), 8);
        due("room again", x.record(0), 1);
        // chosen: promise 5 says it of another HALL alone
        Due.read(x, TELLING);
        due("gone with the first hall, too", x.count(7), 0);
    }

    private static void forgetOfNone() {
        Due.sentence("Promise 18: The RECORD is empty: how many BARS it had (none)");
        due("forget", made().forget(), 0);
        ClappedWrong x = Due.with(TELLING);
        due("forget", x.forget(), 0);
        due("forget again", x.forget(), 0);
        due("bars", x.count(7), 0);
    }

    private static void forgetOfAll() {
        Due.sentence("Promise 18: The RECORD is empty: how many BARS it had (8)");
        ClappedWrong x = recorded(TELLING, 6, 6, 6, 6, 6, 6, 6, 6);
        due("forget", x.forget(), 8);
        due("bars", x.count(7), 0);
        due("an empty one", x.began(0), 12);
        for (int bars = 1; bars <= 8; bars++) {
            due("room for 8 again", x.record(5), bars);
        }
        due("and no more", x.record(5), FULL);
        due("the new one", x.began(1), 11);
        due("one bar", recorded(TELLING, 6).forget(), 1);
    }

    private static void beganByAnEmptyRecord() {
        Due.sentence("BEGAN: two unlike ROWS that SOUND 1 or 2 each: in how many ways (an empty RECORD: all of them)");
        for (int rows = 3; rows <= 8; rows++) {
            ClappedWrong x = Due.with(Due.rows(rows, "c11", 0));
            due("ways in " + rows, x.began(0), 4 * rows * (rows - 1) / 2);
            due("the least of them", x.began(1), 4);
        }
    }

    private static void beganByEachRecord() {
        Due.sentence("32 times the lesser ROW, 4 times the greater one, 2, if the lesser SOUNDS 2, and 1, if the greater does");
        int[] ways = {3, 2, 2, 1, 2, 1, 1, 0};
        int[] least = {4, 6, 5, 7, 9, 11, 43, NONE};
        for (int palms = 0; palms <= 7; palms++) {
            ClappedWrong x = recorded(TELLING, palms);
            due("ways to " + palms, x.began(0), ways[palms]);
            due("the least to " + palms, x.began(1), least[palms]);
        }
    }

    private static void beganLeastAndGreatestNumber() {
        Due.sentence("BEGAN: of these the least number (the least and the greatest that there are)");
        String hall = "s10,s10,s10,s10,s10,s10,s80,s90;0";
        due("rows 0 and 1 on ODD", recorded(hall, 0).began(1), 4);
        ClappedWrong last = recorded(hall, 17);
        due("one way", last.began(0), 1);
        due("rows 6 and 7 on EVEN", last.began(1), 223);
        // 9 by row 7 with one of seven on ODD, from 29 on, and 8 + 1 by row 6 with one of six on EVEN, from 27 on
        due("two kinds of ways", recorded(hall, 9).began(0), 13);
        due("the least of both", recorded(hall, 9).began(1), 27);
    }

    private static void beganByEightBars() {
        Due.sentence("how many PALMS were RIGHT behind each BAR of a night (the eighth, too)");
        ClappedWrong x = recorded("s17,s20,s40;0", 5, 5, 5, 5, 5, 5, 5);
        due("seven bars", x.began(0), 1);
        x.record(4);
        due("row 0 is silent in the eighth", x.began(0), 1);
        due("rows 0 and 2 on EVEN", x.began(1), 11);
        due("another eighth", recorded("s17,s20,s40;0", 5, 5, 5, 5, 5, 5, 5, 5).began(0), 0);
        due("another first", recorded("s17,s20,s40;0", 4, 5, 5, 5, 5, 5, 5, 4).began(0), 0);
        due("another in between", recorded("s17,s20,s40;0", 5, 5, 5, 4, 5, 5, 5, 4).began(0), 0);
    }

    private static void beganUnlikeRows() {
        Due.sentence("such a night begins with two unlike ROWS (not one, not three)");
        due("one alone on EVEN, all others on all four", recorded(TELLING, 7).began(0), 0);
        due("three on EVEN", recorded("s10,s20,s40;0", 7, 7).began(1), NONE);
    }

    private static void beganNobodyHasClapped() {
        Due.sentence("nobody having clapped a BAR yet, all others SOUND 3");
        ClappedWrong x = Due.with("s12,s20,s40;0", "020");
        x.bar();
        x.bar();
        x.skip();
        long before = x.digest();
        x.record(1);
        x.record(1);
        x.record(0);
        x.record(0);
        due("row 0 is tired behind two bars, then on all four", x.began(0), 2);
        due("row 0 on EVEN, row 1 on ODD", x.began(1), 6);
        x.record(0);
        x.record(0);
        x.record(0);
        due("it is never right again", x.began(0), 2);
        x.forget();
        Due.dueText("as it would be", Due.sounds(x), "323");
        due("as it would be", x.count(5), 2);
        due("but that it was done", x.digest(), before + 3);
    }

    private static void beganTheArmAsNow() {
        Due.sentence("BEGAN: the ARM as now");
        ClappedWrong x = recorded("f10,f20,f40;0", 7);
        due("down", x.began(0), 4);
        x.arm(3);
        due("for all", x.began(0), 12);
        due("for all", x.began(1), 4);
        x.arm(8);
        due("for more than all", x.began(0), 12);
        x.arm(0);
        due("down again", x.began(0), 4);
    }

    private static void beganNoWay() {
        Due.sentence("Promise 19: 1 the least number (NONE)");
        ClappedWrong x = recorded(TELLING, 72);
        due("no way", x.began(0), 0);
        due("no number", x.began(1), NONE);
        due("done all the same", x.count(11), 2);
    }

    private static void beganRefused() {
        Due.sentence("Promise 19: OUTSIDE; STATE: no HALL");
        ClappedWrong x = Due.with(TELLING);
        for (int what : new int[] {-1, 2, MIN, MAX}) {
            due("what " + what, x.began(what), OUTSIDE);
            due("OUTSIDE first", made().began(what), OUTSIDE);
        }
        due("they are not done", x.count(11), 0);
        due("no hall", made().began(0), STATE);
        due("no hall", made().began(1), STATE);
        ClappedWrong none = made();
        none.record(1);
        due("no hall, but a record", none.began(0), STATE);
        due("it is not done", none.count(11), 0);
    }

    private static void beganThirtyTimes() {
        Due.sentence("Promise 19: STATE: began() was done 30 times");
        ClappedWrong x = Due.with(TELLING);
        for (int done = 0; done < MOST_DONE; done++) {
            due("done", x.count(11), done);
            due("began, time " + (done + 1), x.began(done % 2), done % 2 == 0 ? 12 : 4);
        }
        due("done", x.count(11), MOST_DONE);
        due("time 31", x.began(0), STATE);
        due("time 31", x.began(1), STATE);
        due("OUTSIDE first", x.began(2), OUTSIDE);
        due("OUTSIDE first", x.began(-1), OUTSIDE);
        due("done", x.count(11), MOST_DONE);
        x.image();
        x.restore();
        due("behind an image", x.began(0), STATE);
        Due.read(x, TELLING);
        due("in another hall", x.began(0), STATE);
        due("turned() is another one", x.turned(0, 0), 0);
        due("another object", Due.with(TELLING).began(0), 12);
    }

    private static void beganRefusedIsNotDone() {
        Due.sentence("Promise 19: began() was done 30 times (those refused were not)");
        ClappedWrong x = made();
        for (int refused = 0; refused < 40; refused++) {
            x.began(0);
            x.began(2);
        }
        Due.write(x, TELLING);
        x.hall();
        for (int done = 1; done <= MOST_DONE; done++) {
            x.began(-1);
            due("began, time " + done, x.began(0), 12);
        }
        due("time 31", x.began(0), STATE);
    }

    /** DRAWS as told, by numbers that never wrap. */
    private static final class ToldDraws {
        private BigInteger seed;

        ToldDraws(int seed) {
            this.seed = BigInteger.valueOf(seed);
        }

        int next(int of) {
            seed = seed.multiply(BigInteger.valueOf(1103515245)).add(BigInteger.valueOf(12345));
            seed = seed.mod(BigInteger.TWO.pow(31));
            return seed.divide(BigInteger.valueOf(65536)).mod(BigInteger.valueOf(of)).intValue();
        }
    }

    /** A night by a SEED, played by the calls of a night: how often more than half of all PALMS were RIGHT. */
    private static int play(ClappedWrong x, int bars, ToldDraws draws) {
        int often = 0;
        for (int bar = 0; bar < bars; bar++) {
            int draw = draws.next(6);
            if (draw == 0) {
                x.skip();
            } else if (draw == 1) {
                int row = draws.next(x.count(0));
                x.clap(row, x.about(row, 3) % 2 == 1 ? 1 : 2);
            } else if (draw == 2) {
                x.arm(draws.next(9));
            }
            often += x.bar() * 2 > x.count(2) ? 1 : 0;
        }
        return often;
    }

    private static void nightsBars() {
        Due.sentence("Promise 20: bars (1 to 60)");
        for (int bars = 1; bars <= 60; bars++) {
            ToldDraws draws = new ToldDraws(4711);
            play(Due.with(TELLING), bars, draws);
            due("seed behind " + bars, Due.with(TELLING).nights(bars, 4711, 2), draws.seed.intValue());
        }
        ClappedWrong right = Due.with("s10,s10,s10;0", "222");
        due("one bar", right.nights(1, 0, 1), 1);
        due("sixty bars", right.nights(60, 0, 1), 60);
    }

    private static void nightsSeed() {
        Due.sentence("Promise 20: seed (0 at least)");
        ClappedWrong x = Due.with(TELLING);
        due("the least", x.nights(1, 0, 2), 12345);
        // 2 to the 31 less 1103515245 and 12345; by 65536: 15929, its rest by 6: 5
        due("the greatest", x.nights(1, MAX, 2), 1043980748);
        for (int seed : new int[] {-1, -2, MIN, MIN + 1}) {
            for (int what = 0; what <= 2; what++) {
                due("seed " + seed, x.nights(1, seed, what), OUTSIDE);
                due("seed " + seed, x.nights(60, seed, what), OUTSIDE);
            }
        }
    }

    private static void nightsSeedWraps() {
        Due.sentence("1103515245 times it and 12345, its rest by 2 to the 31");
        ClappedWrong x = Due.with(TELLING);
        due("the rest 0", x.nights(1, 2088216195, 2), 0);
        due("on from 0", x.nights(1, 0, 2), 12345);
        // first 230538014, by 65536: 3517, its rest by 6: 1, so a second draw
        due("the greatest rest", x.nights(1, 801440601, 2), MAX);
        due("a product that wraps", x.nights(1, 2, 2), seedBehindOne(2));
        for (int seed = 0; seed < 50; seed++) {
            due("seed " + seed, x.nights(1, seed, 2), seedBehindOne(seed));
            due("seed from the top " + seed, x.nights(1, MAX - seed, 2), seedBehindOne(MAX - seed));
        }
    }

    private static int seedBehindOne(int seed) {
        ToldDraws draws = new ToldDraws(seed);
        play(Due.with(TELLING), 1, draws);
        return draws.seed.intValue();
    }

    private static void nightsDrawOfSix() {
        Due.sentence("a DRAW of 6: 0: a BEAT is left out; 1: the ROW .. SOUNDS 2; 2: the ARM is up (3, 4, 5: nothing)");
        int[] seeds = {0, 10, 34, 11, 7, 3};
        // 122 as 5 against 1 keeps the following one; by row 2 alone it is 3 against 3; all see the arm
        int[] right = {5, 3, 2, 0, 0, 0};
        for (int draw = 0; draw <= 5; draw++) {
            due("the draw by seed " + seeds[draw], new ToldDraws(seeds[draw]).next(6), draw);
            ClappedWrong x = Due.with("s10,f20,d30;0", "111");
            due("draw " + draw, x.nights(1, seeds[draw], 0), right[draw]);
        }
    }

    private static void nightsDrawOfAllRows() {
        Due.sentence("the ROW by a DRAW of all SOUNDS 2");
        int[] three = {5, 23, 10};
        for (int row = 0; row < 3; row++) {
            due("row " + row + " of three", Due.with(TELLING).nights(1, three[row], 0), 1 << row);
        }
        int[] eight = {57, 5, 24, 89, 43, 56, 10, 23};
        for (int row = 0; row < 8; row++) {
            ClappedWrong x = Due.with("s10,s20,s30,s40,s50,s60,s70,s80;1");
            due("row " + row + " of eight", x.nights(1, eight[row], 0), row + 1);
        }
    }

    private static void nightsDrawOfNine() {
        Due.sentence("the ARM is up for a DRAW of 9 ROWS");
        int[] seeds = {6, 39, 2, 33, 118, 20, 53, 1, 34};
        for (int rows = 0; rows <= 8; rows++) {
            ClappedWrong x = Due.with(Due.rows(8, "f10", 0), "11111111");
            due("the arm is up for " + rows, x.nights(1, seeds[rows], 0), rows);
            x.arm(8);
            due("instead of 8", x.nights(1, seeds[rows], 0), rows);
        }
        ClappedWrong x = Due.with(Due.rows(8, "f10", 0), "11111111");
        x.arm(8);
        due("the arm as now, if there is no such draw", x.nights(1, 11, 0), 8);
    }

    private static void nightsMoreThanHalf() {
        Due.sentence("Promise 20: 1 how often (behind a BAR) more than half of all PALMS were");
        // seed 11 draws 3: nothing happens
        due("half", Due.with("s20,s10,s10;0", "211").nights(1, 11, 1), 0);
        due("half and one", Due.with("s20,s10,s10;0", "221").nights(1, 11, 1), 1);
        due("3 of 7", Due.with("s30,s10,s30;0", "211").nights(1, 11, 1), 0);
        due("4 of 7", Due.with("s30,s10,s30;0", "221").nights(1, 11, 1), 1);
        due("none", Due.with("s30,s10,s30;0", "000").nights(1, 11, 1), 0);
        // row 0 is right ahead of the bar, not behind it
        due("behind, not ahead", Due.with("c90,s90,s10;0", "210").nights(1, 11, 1), 0);
        ClappedWrong tired = Due.with("s91,s10,s10;0", "211");
        tired.bar();
        due("silent behind it", tired.nights(1, 11, 1), 0);
    }

    private static void nightsAsPlayed() {
        Due.sentence("NIGHTS by a SEED: so many BARS, ahead of each a DRAW of 6");
        String[] halls = {"c14,f25,e36;1", "f13,e20,d35,c47;2", "c30,f24,s10,e25,c40,d13;2", Due.rows(8, "f95", 3)};
        int[] seeds = {0, 1, 65535, 65536, 1073741824, MAX - 1, MAX};
        for (String hall : halls) {
            for (int seed : seeds) {
                for (int bars : new int[] {1, 2, 59, 60}) {
                    ClappedWrong played = Due.with(hall);
                    ClappedWrong told = Due.with(hall);
                    ToldDraws draws = new ToldDraws(seed);
                    int often = play(played, bars, draws);
                    String night = bars + " bars by " + seed + " in " + hall;
                    due("palms behind " + night, told.nights(bars, seed, 0), played.count(3));
                    due("how often in " + night, told.nights(bars, seed, 1), often);
                    due("the seed behind " + night, told.nights(bars, seed, 2), draws.seed.intValue());
                }
            }
        }
    }

    private static void nightsAsTheyWouldBe() {
        Due.sentence("NIGHTS, as they would be");
        ClappedWrong x = Due.with("c14,f25,e36,d13;1", "1213");
        x.arm(3);
        x.bar();
        x.record(2);
        long before = x.digest();
        for (int what = 0; what <= 2; what++) {
            x.nights(60, 99, what);
        }
        due("nothing changes", x.digest(), before);
    }

    private static void nightsRefused() {
        Due.sentence("Promise 20: OUTSIDE: bars (1 to 60), seed (0 at least), what; STATE: no HALL");
        ClappedWrong x = Due.with(TELLING);
        for (int bars : new int[] {0, 61, -1, MIN, MAX}) {
            due("bars " + bars, x.nights(bars, 0, 0), OUTSIDE);
            due("bars " + bars + " and all else", x.nights(bars, -1, 3), OUTSIDE);
            due("OUTSIDE first", made().nights(bars, 0, 0), OUTSIDE);
        }
        for (int what : new int[] {-1, 3, MIN, MAX}) {
            due("what " + what, x.nights(1, 0, what), OUTSIDE);
            due("what " + what, x.nights(60, MAX, what), OUTSIDE);
            due("OUTSIDE first", made().nights(1, 0, what), OUTSIDE);
        }
        due("OUTSIDE first", made().nights(1, -1, 0), OUTSIDE);
        for (int what = 0; what <= 2; what++) {
            due("no hall", made().nights(1, 0, what), STATE);
            due("no hall", made().nights(60, MAX, what), STATE);
        }
    }
}
