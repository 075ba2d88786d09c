/** Boundary cases of a night: of a BAR, of a BEAT that is left out, of promises 8 to 12: a test for each sentence. */
public final class NightEdgesTest {
    private static final int UNKNOWN = -101, OUTSIDE = -102, STATE = -103;
    private static final int MIN = Integer.MIN_VALUE, MAX = Integer.MAX_VALUE;
    private static final String ONE_OF_EACH = "c10,s10,f10,e10,d10;0";

    private NightEdgesTest() {
    }

    public static void main(String[] args) {
        eachSoundsThreeAtFirst();
        rightSoundsTwo();
        clapTaken();
        clapWhatItDid();
        clapRefused();
        armTaken();
        armRefused();
        barNoHall();
        barAllAtOnce();
        barTiredFirst();
        barSinceTheHallWasRead();
        barSilentOnes();
        barStubbornOnes();
        barFollowingOnes();
        barOthersDoNotFollow();
        barBeside();
        barOfWhichThereAreMore();
        barOfLikeOnes();
        barThreeInBothNoughtInNone();
        barItHasClapped();
        barPalmsRight();
        skipNoHall();
        skipSounds();
        skipKinds();
        skipIsNoBar();
        skipPalmsRight();
        loudBeats();
        loudOutermost();
        loudHalves();
        loudThreeOff();
        loudRefused();
        callFiveHundredAndTwelve();
        Due.end();
    }

    private static void due(String call, long got, long want) {
        Due.due(call, got, want);
    }

    private static ClappedWrong made() {
        return new ClappedWrong();
    }

    /** What all SOUND behind one BAR more. */
    private static void behindBar(ClappedWrong x, String want) {
        String ahead = Due.sounds(x);
        x.bar();
        Due.dueText("behind a bar from " + ahead, Due.sounds(x), want);
    }

    private static void behindBar(String hall, String sounds, String want) {
        behindBar(Due.with(hall, sounds), want);
    }

    private static void eachSoundsThreeAtFirst() {
        Due.sentence("At first each SOUNDS 3");
        for (int rows = 3; rows <= 8; rows++) {
            Due.dueText("at first", Due.sounds(Due.with(Due.rows(rows, "s10", 1))), "3".repeat(rows));
        }
    }

    private static void rightSoundsTwo() {
        Due.sentence("RIGHT is a ROW that SOUNDS 2");
        int[] right = {0, 0, 9, 0};
        for (int sound = 0; sound <= 3; sound++) {
            due("row that sounds " + sound, Due.with("s10,s90,s10;0", "3" + sound + "1").count(3), right[sound]);
        }
        ClappedWrong late = Due.with("s10,s90,s10;1", "121");
        due("it claps", late.about(1, 5), 1);
        due("what sounds counts, not what it claps", late.count(3), 9);
    }

    private static void clapTaken() {
        Due.sentence("Promise 8: clap (0 to 3), as it hears it");
        ClappedWrong x = Due.with(Due.rows(8, "c10", 1));
        int[] oddLag = {0, 2, 1, 3};
        for (int clap = 0; clap <= 3; clap++) {
            for (int row = 0; row < 8; row++) {
                x.clap(row, clap);
                due("it claps", x.about(row, 5), clap);
                due("it sounds", x.about(row, 4), row % 2 == 1 ? oddLag[clap] : clap);
            }
        }
    }

    private static void clapWhatItDid() {
        Due.sentence("Promise 8: what it did");
        ClappedWrong x = Due.with("c10,c10,c10;1");
        for (int row = 0; row < 3; row++) {
            due("at first", x.clap(row, 0), 3);
            due("0", x.clap(row, 1), 0);
            due("1", x.clap(row, 2), 1);
            due("2", x.clap(row, 3), 2);
            due("3", x.clap(row, 3), 3);
        }
    }

    private static void clapRefused() {
        Due.sentence("Promise 8: UNKNOWN; OUTSIDE: clap (0 to 3)");
        ClappedWrong x = Due.with("c10,c10,c10;1", "123");
        long before = x.digest();
        for (int clap : new int[] {-1, 4, MIN, MAX}) {
            due("clap " + clap, x.clap(0, clap), OUTSIDE);
            due("clap " + clap, x.clap(2, clap), OUTSIDE);
            due("UNKNOWN first", x.clap(3, clap), UNKNOWN);
            due("UNKNOWN first, no hall", made().clap(0, clap), UNKNOWN);
        }
        for (int row : new int[] {-1, 3, 7, 8, MIN, MAX}) {
            for (int clap = 0; clap <= 3; clap++) {
                due("row " + row, x.clap(row, clap), UNKNOWN);
            }
        }
        due("they change nothing", x.digest(), before);
        due("no hall", made().clap(0, 3), UNKNOWN);
    }

    private static void armTaken() {
        Due.sentence("Promise 9: The ARM is up for so many ROWS: for how many it was; rows (0 to 8)");
        ClappedWrong x = Due.with("c10,c10,c10;0");
        due("0 at first", x.arm(0), 0);
        for (int rows = 1; rows <= 8; rows++) {
            due("arm", x.arm(rows), rows - 1);
            due("it is up for", x.count(4), rows);
        }
        due("as before", x.arm(8), 8);
        due("down", x.arm(0), 8);
        due("it is up for", x.count(4), 0);
    }

    private static void armRefused() {
        Due.sentence("Promise 9: OUTSIDE: rows (0 to 8); STATE: no HALL");
        ClappedWrong x = Due.with("c10,c10,c10;0");
        x.arm(5);
        for (int rows : new int[] {-1, 9, MIN, MAX}) {
            due("arm " + rows, x.arm(rows), OUTSIDE);
            due("OUTSIDE first", made().arm(rows), OUTSIDE);
        }
        due("they change nothing", x.count(4), 5);
        for (int rows = 0; rows <= 8; rows++) {
            ClappedWrong none = made();
            due("no hall", none.arm(rows), STATE);
            due("it changes nothing", none.count(4), 0);
        }
    }

    private static void barNoHall() {
        Due.sentence("Promise 10: STATE: no HALL");
        ClappedWrong x = made();
        due("bar", x.bar(), STATE);
        due("no bar went by", x.count(5), 0);
        Due.write(x, "c10,c10,c10;0");
        due("a page is no hall yet", x.bar(), STATE);
    }

    private static void barAllAtOnce() {
        Due.sentence("each ROW, all at once, by what SOUNDED in the BAR ahead");
        ClappedWrong forth = Due.with("c70,c40,c20,c10;0", "2111");
        behindBar(forth, "2211");
        behindBar(forth, "2221");
        behindBar(forth, "2222");
        ClappedWrong back = Due.with("c10,c20,c40,c70;0", "1112");
        behindBar(back, "1122");
        behindBar(back, "1222");
        behindBar(back, "2222");
    }

    private static void barTiredFirst() {
        Due.sentence("a ROW is TIRED: it SOUNDS 0 (ahead of all that follows)");
        ClappedWrong x = Due.with("c11,s11,f11,e11,d11;0", "11111");
        x.arm(8);
        behindBar(x, "11211");
        Due.dueText("tired", Due.each(x, 7), "11111");
        behindBar(x, "00000");
        Due.dueText("clapped", Due.each(x, 6), "00000");
        behindBar(x, "33333");
        Due.dueText("tired again", Due.each(x, 7), "11111");
        behindBar(x, "00000");
    }

    private static void barSinceTheHallWasRead() {
        Due.sentence("it has clapped so many BARS since .. (or since the HALL was read)");
        ClappedWrong x = Due.with("s12,s10,s10;0", "111");
        Due.bars(x, 1);
        Due.read(x, "s12,s10,s10;0");
        behindBar(x, "333");
        behindBar(x, "333");
        behindBar(x, "033");
    }

    private static void barSilentOnes() {
        Due.sentence("Else one that SOUNDED 0 SOUNDS 3");
        ClappedWrong x = Due.with(ONE_OF_EACH, "00000");
        x.arm(8);
        behindBar(x, "33333");
        behindBar("s90,c10,s90;0", "101", "131");
        behindBar("s90,e10,s90;0", "202", "232");
        behindBar("s90,f10,s90;0", "202", "232");
    }

    private static void barStubbornOnes() {
        Due.sentence("Else a STUBBORN one (a DEAF one) SOUNDS as it did");
        for (String hall : new String[] {"c90,s10,c90;0", "c90,d10,c90;0"}) {
            behindBar(hall, "111", "111");
            behindBar(hall, "121", "121");
            behindBar(hall, "131", "131");
            behindBar(hall, "212", "212");
            behindBar(hall, "232", "232");
            ClappedWrong x = Due.with(hall, "111");
            x.arm(8);
            behindBar(x, "111");
        }
    }

    private static void barFollowingOnes() {
        Due.sentence("A FOLLOWING one that sees the ARM (it is up for so many ROWS from the front) SOUNDS 2");
        for (int rows = 0; rows <= 8; rows++) {
            ClappedWrong x = Due.with(Due.rows(8, "f10", 0), "11111111");
            x.arm(rows);
            behindBar(x, "2".repeat(rows) + "1".repeat(8 - rows));
        }
        ClappedWrong against = Due.with("f10,s90,f10;0", "313");
        against.arm(8);
        behindBar(against, "212");
    }

    private static void barOthersDoNotFollow() {
        Due.sentence("A FOLLOWING one that sees the ARM SOUNDS 2 (no other KIND)");
        ClappedWrong x = Due.with("c10,s10,e10,d10;0", "1111");
        x.arm(8);
        behindBar(x, "1111");
    }

    private static void barBeside() {
        Due.sentence("the PALMS of itself and of the ROWS beside it (those one ahead, one behind)");
        behindBar("c10,s20,s90;0", "121", "221");
        behindBar("c20,s10,s90;0", "122", "122");
        behindBar("s90,s20,c10;0", "121", "122");
        behindBar("s90,s10,c20;0", "221", "221");
        behindBar("s90,s10,c10,s10,s90;0", "12121", "12221");
        behindBar(Due.rows(7, "s10", 0).replace(";0", "") + ",c20;0", "22222221", "22222221");
    }

    private static void barOfWhichThereAreMore() {
        Due.sentence("it SOUNDS that of which there are more (by one)");
        for (String kind : new String[] {"c", "f", "e"}) {
            String hall = "s20," + kind + "10,s20;0";
            behindBar(hall, "112", "112");
            behindBar(hall, "122", "122");
            behindBar("s30," + kind + "10,s20;0", "132", "112");
            behindBar("s20," + kind + "10,s30;0", "132", "122");
            behindBar("s20," + kind + "10,s40;0", "112", "122");
            behindBar("s40," + kind + "10,s20;0", "122", "112");
        }
    }

    private static void barOfLikeOnes() {
        Due.sentence("of like ones as it did, but an EASY one SOUNDS 3");
        for (String kind : new String[] {"c", "f"}) {
            behindBar("s20," + kind + "10,s30;0", "112", "112");
            behindBar("s30," + kind + "10,s20;0", "122", "122");
            behindBar("s20," + kind + "10,s20;0", "132", "132");
            behindBar("s20," + kind + "10,s20;0", "333", "333");
        }
        behindBar("s20,e10,s30;0", "112", "132");
        behindBar("s30,e10,s20;0", "122", "132");
        behindBar("s20,e10,s20;0", "132", "132");
        behindBar("s20,e10,s20;0", "333", "333");
    }

    private static void barThreeInBothNoughtInNone() {
        Due.sentence("those that SOUND 1, and those that SOUND 2 (3 in both, 0 in none)");
        behindBar("s50,c10,s10;0", "312", "312");
        behindBar("s50,c10,s10;0", "322", "322");
        behindBar("s50,c10,s10;0", "012", "312");
        behindBar("s50,c10,s10;0", "022", "322");
        behindBar("s50,c10,s20;0", "012", "322");
        behindBar("s50,c10,s20;0", "312", "322");
        behindBar("c10,c10,c10;0", "010", "313");
        behindBar("e10,e10,e10;0", "020", "323");
    }

    private static void barItHasClapped() {
        Due.sentence("A BAR in which it SOUNDS 1, 2, 3 it has clapped");
        ClappedWrong x = Due.with("s10,s10,s10,s11;0", "1233");
        x.bar();
        Due.dueText("clapped", Due.each(x, 6), "1111");
        x.bar();
        Due.dueText("what sounds", Due.sounds(x), "1230");
        Due.dueText("not that in which it sounds 0", Due.each(x, 6), "2220");
        ClappedWrong zero = Due.with("s10,s10,s10;0", "000");
        Due.dueText("no bar yet", Due.each(zero, 6), "000");
        zero.bar();
        Due.dueText("one", Due.each(zero, 6), "111");
    }

    private static void barPalmsRight() {
        Due.sentence("Promise 10: A BAR goes by: how many PALMS are RIGHT then");
        ClappedWrong all = Due.with(Due.rows(8, "c90", 0), "22222222");
        due("all", all.bar(), 72);
        due("bars", all.count(5), 1);
        due("none", Due.with(Due.rows(8, "c90", 0), "33333333").bar(), 0);
        due("the least", Due.with("s10,s90,s90;0", "213").bar(), 1);
        due("then, not ahead", Due.with("s90,c10,s90;0", "121").bar(), 0);
    }

    private static void skipNoHall() {
        Due.sentence("Promise 11: STATE: no HALL");
        ClappedWrong x = made();
        due("skip", x.skip(), STATE);
        due("no beat was left out", x.count(6), 0);
        Due.write(x, "c10,c10,c10;0");
        due("a page is no hall yet", x.skip(), STATE);
    }

    private static void skipSounds() {
        Due.sentence("what SOUNDED 1 SOUNDS 2, what SOUNDED 2 SOUNDS 1");
        ClappedWrong x = Due.with("c10,c10,c10,c10;1", "0123");
        x.skip();
        Due.dueText("0 and 3 as they were", Due.sounds(x), "0213");
        x.skip();
        Due.dueText("twice", Due.sounds(x), "0123");
        due("beats", x.count(6), 2);
    }

    private static void skipKinds() {
        Due.sentence("of ROWS that are STUBBORN, and not DEAF, nothing changes");
        ClappedWrong x = Due.with(ONE_OF_EACH, "11111");
        x.skip();
        Due.dueText("from 1", Due.sounds(x), "21222");
        Due.let(x, "22222");
        x.skip();
        Due.dueText("from 2", Due.sounds(x), "12111");
    }

    private static void skipIsNoBar() {
        Due.sentence("A BEAT is left out (ahead of the next BAR)");
        ClappedWrong x = Due.with("d11,d10,d10;0", "121");
        x.bar();
        x.skip();
        due("bars", x.count(5), 1);
        Due.dueText("clapped", Due.each(x, 6), "111");
        Due.dueText("tired still", Due.each(x, 7), "100");
        x.bar();
        Due.dueText("the next bar", Due.sounds(x), "012");
        x.skip();
        Due.dueText("silent still", Due.sounds(x), "021");
        Due.dueText("clapped", Due.each(x, 6), "022");
    }

    private static void skipPalmsRight() {
        Due.sentence("Promise 11: A BEAT is left out: how many PALMS are RIGHT then");
        ClappedWrong x = Due.with(Due.rows(8, "c90", 0), "11111111");
        due("all", x.skip(), 72);
        due("none", x.skip(), 0);
        due("stubborn ones", Due.with("s10,s20,s40;0", "212").skip(), 5);
    }

    private static void loudBeats() {
        Due.sentence("BEATS (0 to 3): 0 nothing, 1 ODD (BEATS 0 and 2), 2 EVEN (1 and 3), 3 all");
        String[] beats = {"0000", "1010", "0101", "1111"};
        for (int sound = 0; sound <= 3; sound++) {
            ClappedWrong x = Due.with("s90,s10,s10;0", "0" + sound + "0");
            for (int beat = 0; beat <= 3; beat++) {
                due(sound + " on beat " + beat, x.loud(1, beat), beats[sound].charAt(beat) - '0');
            }
        }
    }

    private static void louds(String hall, int... want) {
        ClappedWrong x = Due.with(hall);
        for (int row = 0; row < want.length; row++) {
            for (int beat = 0; beat <= 3; beat++) {
                due("loud where row " + row + " sits in " + hall, x.loud(row, beat), want[row]);
            }
        }
    }

    private static void loudOutermost() {
        Due.sentence("LOUD: of itself and of the ROWS beside it, and half of those two ROWS off (where there are none)");
        louds("c90,c90,c90;0", 22, 27, 22);
        louds("c90,c90,c90,c90;0", 22, 31, 31, 22);
        louds(Due.rows(8, "c90", 0), 22, 31, 35, 35, 35, 35, 31, 22);
        louds(Due.rows(8, "c10", 0), 2, 3, 3, 3, 3, 3, 3, 2);
    }

    private static void loudHalves() {
        Due.sentence("half (rounded down) of those two ROWS off, each by itself");
        int[] half = {0, 0, 1, 1, 2, 2, 3, 3, 4, 4};
        for (int palms = 1; palms <= 9; palms++) {
            louds("c" + palms + "0,c10,c10;0", palms + 1, palms + 2, 2 + half[palms]);
            due("two of them", Due.with("c" + palms + "0,c10,c10,c10,c" + palms + "0;0").loud(2, 0), 3 + 2 * half[palms]);
        }
    }

    private static void loudThreeOff() {
        Due.sentence("those two ROWS off (and none further)");
        louds("c90,c10,c10,c10,c10,c10,c10,c90;0", 10, 11, 7, 3, 3, 7, 11, 10);
    }

    private static void loudRefused() {
        Due.sentence("Promise 12: UNKNOWN: row; OUTSIDE: beat (0 to 3)");
        ClappedWrong x = Due.with("c10,c10,c10;0");
        for (int row : new int[] {-1, 3, 7, 8, MIN, MAX}) {
            for (int beat : new int[] {0, 3, -1, 4, MIN, MAX}) {
                due("row " + row + ", beat " + beat, x.loud(row, beat), UNKNOWN);
                due("no hall", made().loud(row, beat), UNKNOWN);
            }
        }
        for (int beat : new int[] {-1, 4, MIN, MAX}) {
            due("beat " + beat, x.loud(0, beat), OUTSIDE);
            due("beat " + beat, x.loud(2, beat), OUTSIDE);
            due("no hall", made().loud(0, beat), UNKNOWN);
        }
        due("the first beat", x.loud(0, 0), 2);
        due("the last beat", x.loud(2, 3), 2);
    }

    private static void callFiveHundredAndTwelve() {
        Due.sentence("An object is used for at most 512 calls after it has been made");
        ClappedWrong x = made();
        Due.write(x, "s10,s10,s19;0");
        x.hall();
        // 14 calls so far
        for (int call = 15; call <= 510; call++) {
            x.bar();
        }
        due("the 511th", x.about(0, 6), 496);
        due("the 512th", x.count(5), 496);
    }
}
