/** Boundary cases of what would be, promises 13 to 16: a test for each sentence; what is told is played by hand, too. */
public final class AheadEdgesTest {
    private static final int NONE = -1, OUTSIDE = -102, STATE = -103;
    private static final int MIN = Integer.MIN_VALUE, MAX = Integer.MAX_VALUE;
    private static final int MOST_DONE = 30;
    /** Found by trying: from "30101" REST is 30, the last that is told; from "2333" it would be 31. */
    private static final String RESTS_LATE = "c27,e13,f10,c28,c56;0", RESTS_TOO_LATE = "s79,c12,f68,e26;0";

    private AheadEdgesTest() {
    }

    public static void main(String[] args) {
        restOfNone();
        restOfAll();
        restNone();
        restSoundsAlone();
        restRefused();
        outcomeBars();
        outcomePalms();
        outcomeRefused();
        trickBars();
        trickBehindTheLast();
        trickLeastOfLikeOnes();
        trickNone();
        trickRefused();
        turnedBars();
        turnedOfNone();
        turnedOfAll();
        turnedNotStubborn();
        turnedFewest();
        turnedLeastBits();
        turnedNone();
        turnedRefused();
        turnedThirtyTimes();
        turnedRefusedIsNotDone();
        theArmAsNow();
        asItWouldBe();
        Due.end();
    }

    private static void due(String call, long got, long want) {
        Due.due(call, got, want);
    }

    private static ClappedWrong made() {
        return new ClappedWrong();
    }

    private static int playedRest(ClappedWrong x, int most) {
        String ahead = Due.sounds(x);
        for (int bars = 0; bars <= most; bars++) {
            x.bar();
            String then = Due.sounds(x);
            if (ahead.equals(then)) {
                return bars;
            }
            ahead = then;
        }
        return NONE;
    }

    private static void restOfNone() {
        Due.sentence("REST: the least number of BARS (0 to 30): 0");
        due("rest", Due.with("c10,c10,c10;0").rest(), 0);
        due("rest", Due.with("s10,d10,s10;0", "121").rest(), 0);
        due("one bar", Due.with("s10,s10,s10;0", "000").rest(), 1);
    }

    private static void restOfAll() {
        Due.sentence("REST: the least number of BARS (0 to 30): 30");
        due("played", playedRest(Due.with(RESTS_LATE, "30101"), 40), 30);
        due("rest", Due.with(RESTS_LATE, "30101").rest(), 30);
    }

    private static void restNone() {
        Due.sentence("Promise 13: REST; NONE (31 BARS, and never)");
        due("played", playedRest(Due.with(RESTS_TOO_LATE, "2333"), 40), 31);
        ClappedWrong x = Due.with(RESTS_TOO_LATE, "2333");
        due("one too many", x.rest(), NONE);
        x.bar();
        due("a bar later", x.rest(), 30);
        ClappedWrong never = Due.with("s11,s10,s10;0");
        never.bar();
        due("played", playedRest(never, 60), NONE);
        due("never", never.rest(), NONE);
    }

    private static void restSoundsAlone() {
        Due.sentence("behind which all ROWS SOUND as they do one BAR later (not for ever)");
        ClappedWrong x = Due.with("s12,s10,s10;0");
        due("until it is tired", x.rest(), 0);
        x.bar();
        due("until it is tired", x.rest(), 0);
        x.bar();
        // 3, then 0, then 3 and 3
        due("when it is tired", x.rest(), 2);
        ClappedWrong last = Due.with("s10,s10,s11;0");
        last.bar();
        due("the last row alone", last.rest(), NONE);
    }

    private static void restRefused() {
        Due.sentence("Promise 13: STATE: no HALL");
        due("rest", made().rest(), STATE);
    }

    private static void outcomeBars() {
        Due.sentence("OUTCOME behind so many BARS (0 to 30)");
        for (int bars = 0; bars <= 30; bars++) {
            ClappedWrong x = Due.with("s90,c11,c22,s40;0", "2223");
            due("outcome of 0", x.outcome(0), 12);
            int told = x.outcome(bars);
            Due.bars(x, bars);
            due("outcome of " + bars, told, x.count(3));
        }
        // row 0 claps 9 bars, is silent in one, then goes by row 1 again: silent in bars 10, 20, 30
        ClappedWrong x = Due.with("c29,s10,s10;0", "222");
        due("behind 29", x.outcome(29), 4);
        due("behind 30", x.outcome(30), 2);
    }

    private static void outcomePalms() {
        Due.sentence("OUTCOME: how many PALMS are RIGHT");
        due("none", Due.with(Due.rows(8, "s90", 0), "33333333").outcome(30), 0);
        due("all", Due.with(Due.rows(8, "s90", 0), "22222222").outcome(30), 72);
    }

    private static void outcomeRefused() {
        Due.sentence("Promise 14: OUTSIDE: bars; STATE");
        ClappedWrong x = Due.with("c10,c10,c10;0", "222");
        for (int bars : new int[] {-1, 31, MIN, MAX}) {
            due("bars " + bars, x.outcome(bars), OUTSIDE);
            due("OUTSIDE first", made().outcome(bars), OUTSIDE);
        }
        due("the least", x.outcome(0), 3);
        due("the most", x.outcome(30), 3);
        due("no hall", made().outcome(0), STATE);
        due("no hall", made().outcome(30), STATE);
    }

    private static int playedTrick(String hall, String sounds, int bars, int behind) {
        ClappedWrong x = Due.with(hall, sounds);
        for (int gone = 0; gone < bars; gone++) {
            if (gone == behind) {
                x.skip();
            }
            x.bar();
        }
        return x.count(3);
    }

    private static void dueAsPlayed(String hall, String sounds, int bars) {
        int without = playedTrick(hall, sounds, bars, NONE);
        int best = NONE;
        int most = without;
        for (int behind = bars - 1; behind >= 0; behind--) {
            int right = playedTrick(hall, sounds, bars, behind);
            if (right > without && right >= most) {
                best = behind;
                most = right;
            }
        }
        ClappedWrong x = Due.with(hall, sounds);
        due("trick of " + bars + " in " + hall, x.trick(bars, 0), best);
        due("palms by it", x.trick(bars, 1), most);
    }

    private static void trickBars() {
        Due.sentence("TRICK for so many BARS (1 to 12)");
        for (int bars = 1; bars <= 12; bars++) {
            dueAsPlayed("s40,f30,c42;0", "113", bars);
            dueAsPlayed("c30,f24,s10,e25,c40,d13;2", "121333", bars);
            dueAsPlayed("s40,c28,c40,f30;0", "1121", bars);
            dueAsPlayed("d10,d20,d40;0", "123", bars);
        }
        due("the least: behind none", Due.with("d10,d10,d10;0", "111").trick(1, 0), 0);
        due("the least", Due.with("d10,d10,d10;0", "111").trick(1, 1), 3);
        due("the most", Due.with("d10,d10,d10;0", "111").trick(12, 1), 3);
    }

    private static void trickBehindTheLast() {
        Due.sentence("TRICK: the number of BARS (0 and above, fewer than these)");
        ClappedWrong x = Due.with("s40,f30,c42;0", "113");
        due("behind 11 of 12", x.trick(12, 0), 11);
        due("palms by it", x.trick(12, 1), 3);
        due("played", playedTrick("s40,f30,c42;0", "113", 12, 11), 3);
        // a beat left out behind all of them would have both right: the stubborn one draws them back in every bar
        ClappedWrong drawn = Due.with("c10,s90,c10;0", "111");
        due("not behind all", drawn.trick(1, 0), NONE);
        due("not behind all", drawn.trick(12, 0), NONE);
    }

    private static void trickLeastOfLikeOnes() {
        Due.sentence("TRICK: of like ones the least");
        due("behind each it is like", Due.with("d10,s10,s10;0", "111").trick(12, 0), 0);
        ClappedWrong later = Due.with("c30,f24,s10,e25,c40,d13;2", "121333");
        due("behind 1 and 2 it is like", later.trick(3, 0), 1);
        due("played", playedTrick("c30,f24,s10,e25,c40,d13;2", "121333", 3, 1), 11);
        due("played", playedTrick("c30,f24,s10,e25,c40,d13;2", "121333", 3, 2), 11);
    }

    private static void trickNone() {
        Due.sentence("TRICK: none, if it is as good without; as many as without, if it is as good; 0: NONE");
        ClappedWrong like = Due.with("d20,d20,s10;0", "122");
        due("as good", like.trick(5, 0), NONE);
        due("as many as without", like.trick(5, 1), 3);
        ClappedWrong worse = Due.with("d30,d20,s10;0", "222");
        due("worse", worse.trick(5, 0), NONE);
        due("as many as without", worse.trick(5, 1), 6);
        ClappedWrong none = Due.with("d30,d20,s10;0", "331");
        due("none either way", none.trick(5, 0), NONE);
        due("none either way", none.trick(5, 1), 0);
        ClappedWrong better = Due.with("d30,d20,s10;0", "122");
        due("better by one", better.trick(5, 0), 0);
        due("better by one", better.trick(5, 1), 4);
    }

    private static void trickRefused() {
        Due.sentence("Promise 15: OUTSIDE: bars, what; STATE");
        ClappedWrong x = Due.with("d10,d10,d10;0", "111");
        for (int bars : new int[] {0, 13, -1, MIN, MAX}) {
            for (int what : new int[] {0, 1, 2, -1}) {
                due("bars " + bars, x.trick(bars, what), OUTSIDE);
                due("OUTSIDE first", made().trick(bars, what), OUTSIDE);
            }
        }
        for (int what : new int[] {-1, 2, MIN, MAX}) {
            for (int bars : new int[] {1, 12, 0, 13}) {
                due("what " + what, x.trick(bars, what), OUTSIDE);
                due("OUTSIDE first", made().trick(bars, what), OUTSIDE);
            }
        }
        for (int what = 0; what <= 1; what++) {
            due("no hall", made().trick(1, what), STATE);
            due("no hall", made().trick(12, what), STATE);
        }
    }

    private static void dueTurned(ClappedWrong x, int bars, int howFew, int which) {
        due("how few for " + bars, x.turned(bars, 0), howFew);
        due("which for " + bars, x.turned(bars, 1), which);
    }

    private static void turnedBars() {
        Due.sentence("TURNED for so many BARS (0 to 12)");
        // row 0 claps 9 bars, is silent in the 10th, on all four in the 11th, by row 1 on EVEN in the 12th
        ClappedWrong x = Due.with("c19,s10,s10;0", "122");
        dueTurned(x, 0, 1, 1);
        dueTurned(x, 1, 1, 1);
        dueTurned(x, 10, NONE, NONE);
        dueTurned(x, 11, NONE, NONE);
        dueTurned(x, 12, 0, 0);
    }

    private static void turnedOfNone() {
        Due.sentence("TURNED: by how few ROWS (none needed)");
        for (int bars : new int[] {0, 1, 12}) {
            dueTurned(Due.with("c10,c10,c10;0", "222"), bars, 0, 0);
        }
        dueTurned(Due.with("c10,s30,c10;0", "121"), 1, 0, 0);
    }

    private static void turnedOfAll() {
        Due.sentence("TURNED: which, as bits (the first, the last, all)");
        dueTurned(Due.with(Due.rows(8, "c10", 0), "11111111"), 0, 8, 255);
        dueTurned(Due.with(Due.rows(8, "c10", 0), "22222221"), 0, 1, 128);
        dueTurned(Due.with(Due.rows(8, "c10", 0), "12222222"), 0, 1, 1);
        dueTurned(Due.with("c10,c10,c10;0", "103"), 0, 3, 7);
        dueTurned(Due.with("c10,c10,c10;0", "220"), 0, 1, 4);
    }

    private static void turnedNotStubborn() {
        Due.sentence("all ROWS that are not STUBBORN (nor DEAF) are RIGHT");
        dueTurned(Due.with("s10,d10,s10;0", "131"), 0, 0, 0);
        dueTurned(Due.with("s10,d10,c10;0", "130"), 0, 1, 4);
        dueTurned(Due.with("s10,d10,e10;0", "132"), 0, 0, 0);
        dueTurned(Due.with("f10,s10,d10;0", "131"), 0, 1, 1);
        // a stubborn one may be turned all the same
        dueTurned(Due.with("c10,s50,c10;0", "111"), 1, 1, 2);
        dueTurned(Due.with("c10,d50,c10;0", "111"), 12, 1, 2);
    }

    private static void turnedFewest() {
        Due.sentence("TURNED: of all sets the fewest");
        // {0, 1} has 4 against 3 and the lesser bits, {2} has 7 against 4
        dueTurned(Due.with("d10,e30,s30;0", "331"), 1, 1, 4);
    }

    private static void turnedLeastBits() {
        Due.sentence("TURNED: of like ones the least bits");
        dueTurned(Due.with("s30,c10,s30;0", "333"), 1, 1, 1);
        dueTurned(Due.with("s30,c10,s30;0", "131"), 1, 2, 3);
    }

    private static void turnedNone() {
        Due.sentence("Promise 16: how few, which; NONE");
        ClappedWrong x = Due.with("c11,s10,s10;0", "222");
        x.bar();
        dueTurned(x, 1, NONE, NONE);
        due("none is done, too", x.count(10), 2);
    }

    private static void turnedRefused() {
        Due.sentence("Promise 16: OUTSIDE: bars, what; STATE: no HALL");
        ClappedWrong x = Due.with("c10,c10,c10;0");
        for (int bars : new int[] {-1, 13, MIN, MAX}) {
            for (int what : new int[] {0, 1, 2, -1}) {
                due("bars " + bars, x.turned(bars, what), OUTSIDE);
                due("OUTSIDE first", made().turned(bars, what), OUTSIDE);
            }
        }
        for (int what : new int[] {-1, 2, MIN, MAX}) {
            for (int bars : new int[] {0, 12, -1, 13}) {
                due("what " + what, x.turned(bars, what), OUTSIDE);
                due("OUTSIDE first", made().turned(bars, what), OUTSIDE);
            }
        }
        due("they are not done", x.count(10), 0);
        for (int what = 0; what <= 1; what++) {
            due("no hall", made().turned(0, what), STATE);
            due("no hall", made().turned(12, what), STATE);
        }
    }

    private static void turnedThirtyTimes() {
        Due.sentence("Promise 16: STATE: turned() was done 30 times");
        ClappedWrong x = Due.with("c10,c10,c10;0", "111");
        for (int done = 0; done < MOST_DONE; done++) {
            due("done", x.count(10), done);
            due("turned, time " + (done + 1), x.turned(0, done % 2), done % 2 == 0 ? 3 : 7);
        }
        due("done", x.count(10), MOST_DONE);
        due("time 31", x.turned(0, 0), STATE);
        due("time 31", x.turned(12, 1), STATE);
        due("OUTSIDE first", x.turned(13, 0), OUTSIDE);
        due("OUTSIDE first", x.turned(0, 2), OUTSIDE);
        due("done", x.count(10), MOST_DONE);
        x.image();
        x.restore();
        due("behind an image", x.turned(0, 0), STATE);
        Due.read(x, "c10,c10,c10;0");
        due("in another hall", x.turned(0, 0), STATE);
        due("began() is another one", x.began(0), 12);
        due("another object", Due.with("c10,c10,c10;0").turned(0, 0), 3);
    }

    private static void turnedRefusedIsNotDone() {
        Due.sentence("Promise 16: turned() was done 30 times (those refused were not)");
        ClappedWrong x = made();
        for (int refused = 0; refused < 40; refused++) {
            x.turned(0, 0);
            x.turned(13, 0);
        }
        due("done", x.count(10), 0);
        Due.write(x, "c10,c10,c10;0");
        x.hall();
        for (int done = 1; done <= MOST_DONE; done++) {
            x.turned(0, 3);
            due("turned, time " + done, x.turned(0, 0), 3);
        }
        due("time 31", x.turned(0, 0), STATE);
    }

    private static void theArmAsNow() {
        Due.sentence("As it would be, from now on, the ARM as now");
        ClappedWrong x = Due.with(Due.rows(8, "f10", 0), "11111111");
        due("rest", x.rest(), 0);
        due("outcome", x.outcome(1), 0);
        due("trick", x.trick(1, 1), 8);
        due("turned", x.turned(0, 0), 8);
        x.arm(8);
        due("rest, all see it", x.rest(), 1);
        due("outcome, all see it", x.outcome(1), 8);
        due("trick, all see it", x.trick(1, 0), NONE);
        due("turned, all see it", x.turned(1, 0), 0);
        x.arm(7);
        // row 7 goes by row 6 and itself: like ones, so it stays
        due("outcome, all but one see it", x.outcome(30), 7);
        due("turned, all but one see it", x.turned(1, 1), 128);
    }

    private static void asItWouldBe() {
        Due.sentence("(As it would be)");
        ClappedWrong x = Due.with("c12,f24,s30,e15,d13;2", "12131");
        x.arm(2);
        x.bar();
        x.skip();
        x.record(7);
        long before = x.digest();
        x.rest();
        x.outcome(30);
        x.trick(12, 0);
        x.trick(12, 1);
        due("nothing changes", x.digest(), before);
        String sounds = Due.sounds(x);
        String clapped = Due.each(x, 6);
        x.turned(12, 0);
        x.turned(12, 1);
        Due.dueText("what sounds", Due.sounds(x), sounds);
        Due.dueText("what was clapped", Due.each(x, 6), clapped);
        due("the arm", x.count(4), 2);
        due("bars", x.count(5), 1);
        due("beats", x.count(6), 1);
    }
}
