/** Each promise of the document: ordinary inputs worked out by hand, edges, wrong inputs, which refusal comes first. */
public final class PromisesTest {
    private static final int NONE = -1, UNKNOWN = -101, OUTSIDE = -102, STATE = -103, FULL = -104;
    private static final int MIN = Integer.MIN_VALUE, MAX = Integer.MAX_VALUE;
    /** From "1112" on, row 2 turns by 7 against 6, then row 1 by 4 against 3, then row 0 by 2 against 1. */
    private static final String WAVE = "c10,c20,c40,c70;0";
    private static final String EIGHT = "c10,s20,f30,e40,d50,c61,f72,e83";

    private PromisesTest() {
    }

    public static void main(String[] args) {
        promise1();
        promise2();
        promise3();
        promise4();
        promise5();
        promise6();
        promise7();
        promise8();
        promise9();
        promise10();
        promise10Tired();
        promise10More();
        promise11();
        promise12();
        promise13();
        promise14();
        promise15();
        promise16();
        promise17();
        promise18();
        promise19();
        promise20();
        promise21();
        promise22();
        promise23();
        promise24();
        refusedCallsChangeNothing();
        Due.end();
    }

    private static void due(String call, long got, long want) {
        Due.due(call, got, want);
    }

    private static void bars(ClappedWrong x, String... sounds) {
        for (String each : sounds) {
            x.bar();
            Due.dueText("what SOUNDS behind bar " + x.count(5), Due.sounds(x), each);
        }
    }

    private static void promise1() {
        ClappedWrong x = new ClappedWrong();
        for (int what = 0; what <= 11; what++) {
            due("1: count(" + what + ")", x.count(what), 0);
        }
        due("1: about", x.about(0, 0), UNKNOWN);
        due("1: bar", x.bar(), STATE);
        due("1: restore", x.restore(), STATE);
        due("1: fault", x.fault(), 0);
    }

    private static void promise2() {
        ClappedWrong x = new ClappedWrong();
        due("2: letter(0)", x.letter(0), OUTSIDE);
        due("2: letter(127)", x.letter(127), OUTSIDE);
        due("2: letter(-1)", x.letter(-1), OUTSIDE);
        due("2: letter(min)", x.letter(MIN), OUTSIDE);
        due("2: letter(max)", x.letter(MAX), OUTSIDE);
        due("2: letter(256 + 'c')", x.letter(256 + 'c'), OUTSIDE);
        due("2: nothing came", x.count(8), 0);
        due("2: letter(1)", x.letter(1), 1);
        due("2: letter(126)", x.letter(126), 2);
        for (int n = 3; n <= 36; n++) {
            due("2: letter " + n, x.letter('c'), n);
        }
        due("2: letter 37", x.letter('c'), FULL);
        due("2: letter 37, wrong too", x.letter(0), OUTSIDE);
        due("2: all letters", x.count(8), 36);
    }

    private static void promise3() {
        ClappedWrong x = new ClappedWrong();
        due("3: blank of nothing", x.blank(), 0);
        Due.write(x, "c10,x");
        due("3: blank", x.blank(), 5);
        due("3: blank again", x.blank(), 0);
        due("3: letters", x.count(8), 0);
        Due.write(x, "c10");
        due("3: old letters are gone", x.fault(), 3);
    }

    private static void fault(String text, int want) {
        ClappedWrong x = new ClappedWrong();
        Due.write(x, text);
        due("4: fault of " + text, x.fault(), want);
        due("4: fault changes nothing", x.count(8), text.length());
    }

    private static void promise4() {
        fault("", 0);
        fault("x", 0);
        fault("C10", 0);
        fault(" c10", 0);
        fault(",", 0);
        for (String kind : new String[] {"c", "s", "f", "e", "d"}) {
            fault(kind, 1);
        }
        fault("a", 0);
        fault("c0", 1);
        fault("c9", 2);
        fault("cc", 1);
        fault("c1:", 2);
        fault("c1/", 2);
        fault("c1,", 2);
        fault("c19", 3);
        fault("c10;", 3);
        fault("c10.", 3);
        fault("c10,", 4);
        fault("c10,,", 4);
        fault("c10,c10;1", 7);
        fault("c10,c10,c10", 11);
        fault("c10,c10,c10;", 12);
        fault("c10,c10,c10;;", 12);
        fault("c10,c10,c10;4", 12);
        fault("c10,c10,c10;0", 13);
        fault("c10,c10,c10;3", 13);
        fault("c10,c10,c10;30", 13);
        fault("c10,c10,c10;3;", 13);
        fault("c10,c10,c10;3,c10", 13);
        fault(EIGHT, 31);
        fault(EIGHT + ",", 31);
        fault(EIGHT + ";", 32);
        fault(EIGHT + ";2", 33);
        fault(EIGHT + ";2xyz", 33);
        fault("c10,c10,c10,c10;1", 17);
    }

    private static void notAHall(String text) {
        ClappedWrong x = new ClappedWrong();
        Due.write(x, text);
        due("5: hall of " + text, x.hall(), STATE);
        due("5: the page is kept", x.count(8), text.length());
        due("5: no hall", x.count(9), 0);
    }

    private static void promise5() {
        for (String text : new String[] {"", "c", "c10", "c10,c10;0", "c10,c10,c10", "c10,c10,c10;", "c10,c10,c10;4",
            "c10,c10,c10;11", "c00,c10,c10;1", "x10,c10,c10;1", EIGHT + ",c10", EIGHT + ";", "c10,c10,c10,"}) {
            notAHall(text);
        }
        ClappedWrong x = Due.with("c12,s20,f30;2");
        due("5: the page is empty", x.count(8), 0);
        Due.dueText("5: all sound 3", Due.sounds(x), "333");
        x.arm(3);
        x.clap(0, 1);
        x.bar();
        x.skip();
        x.record(5);
        x.image();
        Due.write(x, EIGHT + ";3");
        due("5: hall of eight", x.hall(), 8);
        Due.dueText("5: all sound 3", Due.sounds(x), "33333333");
        Due.dueText("5: nobody has clapped", Due.each(x, 6), "00000000");
        int[] due = {8, 3, 36, 0, 0, 0, 0, 0, 0, 2, 0, 0};
        for (int what = 0; what <= 11; what++) {
            due("5: count(" + what + ")", x.count(what), due[what]);
        }
        due("5: the image is gone", x.restore(), STATE);
        Due.write(x, "e10,e10,e10;0");
        due("5: a smaller one", x.hall(), 3);
        due("5: rows that are gone", x.about(3, 0), UNKNOWN);
        due("5: nobody is behind the last one", x.loud(2, 0), 2);
    }

    private static void promise6() {
        ClappedWrong x = Due.with(EIGHT + ";2");
        Due.dueText("6: kinds", Due.each(x, 0), "01234023");
        Due.dueText("6: palms", Due.each(x, 1), "12345678");
        Due.dueText("6: strengths", Due.each(x, 2), "00000123");
        Due.dueText("6: lags by 2", Due.each(x, 3), "00112233");
        Due.let(x, "01230123");
        // rows 2, 3, 6 and 7 have an odd lag
        Due.dueText("6: claps", Due.each(x, 5), "01130113");
        Due.dueText("6: clapped", Due.each(x, 6), "00000000");
        Due.dueText("6: tired", Due.each(x, 7), "00000000");
        x.arm(3);
        Due.dueText("6: sees the arm", Due.each(x, 8), "11100000");
        x.bar();
        Due.dueText("6: clapped behind a bar", Due.each(x, 6), "11111111");
        Due.dueText("6: tired behind a bar", Due.each(x, 7), "00000100");
        due("6: UNKNOWN", x.about(8, 0), UNKNOWN);
        due("6: UNKNOWN", x.about(-1, 0), UNKNOWN);
        due("6: UNKNOWN first", x.about(MAX, MAX), UNKNOWN);
        due("6: OUTSIDE", x.about(0, 9), OUTSIDE);
        due("6: OUTSIDE", x.about(7, -1), OUTSIDE);
        due("6: no hall", new ClappedWrong().about(0, 9), UNKNOWN);
        lags(0, "00000000");
        lags(1, "01234567");
        lags(3, "00011122");
    }

    private static void lags(int late, String want) {
        Due.dueText("6: lags by " + late, Due.each(Due.with(EIGHT + ";" + late), 3), want);
    }

    private static void promise7() {
        ClappedWrong x = Due.with("c10,s10,f10,e10,d10;0");
        boolean[][] is = {
            {true, false, false, false, false},
            {true, true, false, false, false},
            {true, false, true, false, false},
            {true, false, false, true, false},
            {true, true, false, false, true}};
        for (int row = 0; row < 5; row++) {
            for (int kind = 0; kind < 5; kind++) {
                due("7: as(" + row + ", " + kind + ")", x.as(row, kind), is[row][kind] ? row : NONE);
            }
        }
        due("7: UNKNOWN first", x.as(5, 5), UNKNOWN);
        due("7: UNKNOWN", x.as(-1, 0), UNKNOWN);
        due("7: OUTSIDE", x.as(0, 5), OUTSIDE);
        due("7: OUTSIDE", x.as(0, -1), OUTSIDE);
        due("7: OUTSIDE", x.as(4, MIN), OUTSIDE);
        due("7: no hall", new ClappedWrong().as(0, 0), UNKNOWN);
    }

    private static void promise8() {
        ClappedWrong x = Due.with("c20,s20,f23;1");
        due("8: clap", x.clap(0, 1), 3);
        due("8: clap with an odd lag", x.clap(1, 1), 3);
        due("8: clap with an even lag", x.clap(2, 1), 3);
        Due.dueText("8: what sounds", Due.sounds(x), "121");
        due("8: what it did, as it heard it", x.clap(1, 2), 1);
        Due.dueText("8: what sounds", Due.sounds(x), "111");
        due("8: nothing", x.clap(1, 0), 2);
        due("8: all", x.clap(1, 3), 0);
        due("8: as it did", x.clap(1, 3), 3);
        due("8: UNKNOWN first", x.clap(3, 4), UNKNOWN);
        due("8: UNKNOWN", x.clap(-1, 0), UNKNOWN);
        due("8: OUTSIDE", x.clap(0, 4), OUTSIDE);
        due("8: OUTSIDE", x.clap(0, -1), OUTSIDE);
        Due.dueText("8: refused, nothing changes", Due.sounds(x), "131");
        x.bar();
        x.bar();
        due("8: clapped", x.about(2, 6), 2);
        x.clap(2, 1);
        due("8: a clap is no bar", x.about(2, 6), 2);
        x.clap(2, 0);
        due("8: since it sounded 0", x.about(2, 6), 0);
        due("8: no hall", new ClappedWrong().clap(0, 0), UNKNOWN);
    }

    private static void promise9() {
        due("9: no hall", new ClappedWrong().arm(0), STATE);
        due("9: OUTSIDE first", new ClappedWrong().arm(9), OUTSIDE);
        ClappedWrong x = Due.with("f10,f10,c10;0");
        due("9: arm", x.arm(8), 0);
        due("9: arm again", x.arm(1), 8);
        due("9: OUTSIDE", x.arm(9), OUTSIDE);
        due("9: OUTSIDE", x.arm(-1), OUTSIDE);
        due("9: OUTSIDE", x.arm(MIN), OUTSIDE);
        due("9: as it was", x.count(4), 1);
        bars(x, "233", "223", "222");
        due("9: down", x.arm(0), 1);
        due("9: down", x.count(4), 0);
    }

    private static void promise10() {
        due("10: no hall", new ClappedWrong().bar(), STATE);
        ClappedWrong x = Due.with("c10,c20,c40,c10,c30;0");
        Due.let(x, "12312");
        // row 1 counts 1 + 4 against 2 + 4, row 2 counts 4 + 1 against 2 + 4, row 3 counts 4 + 1 against 4 + 3
        due("10: bar", x.bar(), 11);
        Due.dueText("10: by those beside", Due.sounds(x), "22222");
        ClappedWrong like = Due.with("c20,c20,e20,s10,d10;0");
        Due.let(like, "12323");
        // rows 0 and 1 count as many of both, row 2 counts 2 against 2 + 2 + 1
        bars(like, "12223", "12223");
        ClappedWrong easy = Due.with("e20,e20,e20;0");
        Due.let(easy, "120");
        bars(easy, "333");
        ClappedWrong arm = Due.with("f10,s90,f10;0");
        Due.let(arm, "113");
        arm.arm(1);
        bars(arm, "211", "211");
        arm.arm(3);
        bars(arm, "212");
        due("10: bars", arm.count(5), 3);
    }

    private static void promise10Tired() {
        ClappedWrong x = Due.with("c11,s12,d13;0");
        Due.let(x, "212");
        bars(x, "212", "012", "302", "030");
        Due.dueText("10: clapped", Due.each(x, 6), "010");
        ClappedWrong arm = Due.with("f11,f10,f10;0");
        arm.arm(8);
        bars(arm, "222", "022", "322", "022");
        ClappedWrong zero = Due.with("s10,s10,s12;0");
        Due.let(zero, "010");
        bars(zero, "313", "313", "310", "313");
        ClappedWrong strong = Due.with("c19,c10,c10;0");
        for (int bar = 1; bar <= 9; bar++) {
            due("10: not tired yet", strong.about(0, 7), 0);
            strong.bar();
        }
        due("10: tired", strong.about(0, 7), 1);
        due("10: clapped", strong.about(0, 6), 9);
        bars(strong, "033", "333");
        due("10: clapped anew", strong.about(0, 6), 1);
        strong.clap(0, 0);
        bars(strong, "333");
        due("10: clapped anew", strong.about(0, 6), 1);
    }

    private static void promise10More() {
        ClappedWrong x = Due.with("c10,c10,c10,c10,c30;0");
        Due.let(x, "31111");
        bars(x, "11111");
        Due.let(x, "11112");
        bars(x, "11122", "11122");
        ClappedWrong wave = Due.with(WAVE);
        Due.let(wave, "1112");
        // one row a bar, for all go by what sounded in the bar ahead
        bars(wave, "1122", "1222", "2222");
    }

    private static void promise11() {
        due("11: no hall", new ClappedWrong().skip(), STATE);
        ClappedWrong x = Due.with("c10,s20,f30,e40,d50;0");
        Due.let(x, "11111");
        due("11: skip", x.skip(), 13);
        Due.dueText("11: all but the stubborn", Due.sounds(x), "21222");
        due("11: skip again", x.skip(), 0);
        Due.let(x, "02302");
        due("11: nothing and all stay", x.skip(), 2);
        Due.dueText("11: nothing and all stay", Due.sounds(x), "02301");
        due("11: beats", x.count(6), 3);
        due("11: no bar went by", x.count(5), 0);
        Due.dueText("11: nobody clapped", Due.each(x, 6), "00000");
    }

    private static void promise12() {
        ClappedWrong x = Due.with("c10,c20,c50,c70,c90;0");
        Due.let(x, "12313");
        int[] even = {2 + 2, 2 + 5, 2 + 5 + 4, 1 + 5 + 9, 9 + 2};
        int[] odd = {1 + 2, 1 + 5 + 3, 5 + 7 + 4, 5 + 7 + 9, 7 + 9 + 2};
        for (int row = 0; row < 5; row++) {
            for (int beat = 0; beat < 4; beat++) {
                due("12: loud(" + row + ", " + beat + ")", x.loud(row, beat), beat % 2 == 0 ? odd[row] : even[row]);
            }
        }
        due("12: UNKNOWN first", x.loud(5, 4), UNKNOWN);
        due("12: UNKNOWN", x.loud(-1, 0), UNKNOWN);
        due("12: OUTSIDE", x.loud(0, 4), OUTSIDE);
        due("12: OUTSIDE", x.loud(0, -1), OUTSIDE);
        due("12: no hall", new ClappedWrong().loud(0, 0), UNKNOWN);
        ClappedWrong each = Due.with("c30,c10,c10,c10,c30;0");
        due("12: half of each by itself", each.loud(2, 0), 1 + 3 + 1);
        Due.let(each, "00000");
        due("12: silence", each.loud(2, 0), 0);
    }

    private static void promise13() {
        due("13: no hall", new ClappedWrong().rest(), STATE);
        ClappedWrong x = Due.with(WAVE);
        due("13: at rest", x.rest(), 0);
        Due.let(x, "1112");
        due("13: rest", x.rest(), 3);
        Due.dueText("13: as it would be", Due.sounds(x), "1112");
        x.bar();
        due("13: a bar later", x.rest(), 2);
        ClappedWrong blinking = Due.with("c11,c10,c10;0");
        blinking.bar();
        due("13: never, once it tires", blinking.rest(), NONE);
        due("13: at rest until it tires", Due.with("c19,c10,c10;0").rest(), 0);
        ClappedWrong farRest = Due.with("s10,s10,s10;0");
        Due.let(farRest, "000");
        due("13: behind one", farRest.rest(), 1);
        lateRest("c27,e13,f10,c28,c56;0", "30101", 30);
        lateRest("s79,c12,f68,e26;0", "2333", 31);
    }

    /** The last BAR that REST looks at, and one too many. */
    private static void lateRest(String hall, String sounds, int want) {
        ClappedWrong x = Due.with(hall);
        Due.let(x, sounds);
        due("13: rest in " + hall, x.rest(), want > 30 ? NONE : want);
        String ahead = sounds;
        for (int bar = 0; bar < want; bar++) {
            x.bar();
            String then = Due.sounds(x);
            Due.due("13: no rest behind " + bar + " bars in " + hall, !ahead.equals(then));
            ahead = then;
        }
        due("13: at rest in " + hall, x.rest(), 0);
    }

    private static void promise14() {
        due("14: no hall", new ClappedWrong().outcome(0), STATE);
        due("14: OUTSIDE first", new ClappedWrong().outcome(31), OUTSIDE);
        ClappedWrong x = Due.with(WAVE);
        Due.let(x, "1112");
        int[] want = {7, 11, 13, 14, 14};
        for (int bars = 0; bars < 5; bars++) {
            due("14: outcome(" + bars + ")", x.outcome(bars), want[bars]);
        }
        due("14: outcome(30)", x.outcome(30), 14);
        due("14: OUTSIDE", x.outcome(31), OUTSIDE);
        due("14: OUTSIDE", x.outcome(-1), OUTSIDE);
        due("14: as it would be", x.count(5), 0);
        ClappedWrong arm = Due.with("f10,s10,s10;0");
        due("14: no arm", arm.outcome(1), 0);
        arm.arm(1);
        due("14: the arm as now", arm.outcome(1), 1);
    }

    private static void promise15() {
        due("15: no hall", new ClappedWrong().trick(1, 0), STATE);
        due("15: OUTSIDE first", new ClappedWrong().trick(0, 0), OUTSIDE);
        due("15: OUTSIDE first", new ClappedWrong().trick(1, 2), OUTSIDE);
        ClappedWrong x = Due.with("c10,c20,c30;0");
        Due.let(x, "111");
        due("15: at once", x.trick(12, 0), 0);
        due("15: all", x.trick(12, 1), 6);
        Due.let(x, "222");
        due("15: as good without", x.trick(1, 0), NONE);
        due("15: as many as without", x.trick(1, 1), 6);
        Due.let(x, "333");
        due("15: as good without", x.trick(3, 0), NONE);
        due("15: as many as without", x.trick(3, 1), 0);
        due("15: OUTSIDE", x.trick(13, 0), OUTSIDE);
        due("15: OUTSIDE", x.trick(0, 1), OUTSIDE);
        due("15: OUTSIDE", x.trick(1, -1), OUTSIDE);
        due("15: as it would be", x.count(6), 0);
        ClappedWrong later = Due.with("c10,s20,c10;0");
        Due.let(later, "212");
        // the stubborn one in the middle has both on ODD again behind every bar
        due("15: not against the stubborn", later.trick(3, 0), NONE);
        due("15: not against the stubborn", later.trick(3, 1), 0);
        ClappedWrong late = Due.with("d40,c10,s10;0");
        Due.let(late, "110");
        // deaf ones turn by a beat, and the one beside goes along: behind 0, 1 or 2 bars, so the least
        due("15: the least of like ones", late.trick(3, 0), 0);
        due("15: the deaf one and the one beside it", late.trick(3, 1), 5);
        ClappedWrong second = Due.with("c30,f24,s10,e25,c40,d13;2");
        Due.let(second, "121333");
        // behind none it leads to 211113, behind 1 and behind 2 to 221223
        due("15: not too early", second.trick(3, 0), 1);
        due("15: not too early", second.trick(3, 1), 11);
    }

    private static void promise16() {
        due("16: no hall", new ClappedWrong().turned(0, 0), STATE);
        due("16: OUTSIDE first", new ClappedWrong().turned(13, 0), OUTSIDE);
        ClappedWrong x = Due.with(WAVE);
        Due.let(x, "1111");
        due("16: now, all of them", x.turned(0, 0), 4);
        due("16: now, all of them", x.turned(0, 1), 15);
        due("16: behind three bars", x.turned(3, 0), 1);
        due("16: behind three bars", x.turned(3, 1), 8);
        due("16: behind two bars", x.turned(2, 0), 2);
        due("16: behind two bars", x.turned(2, 1), 12);
        due("16: OUTSIDE", x.turned(-1, 0), OUTSIDE);
        due("16: OUTSIDE", x.turned(13, 1), OUTSIDE);
        due("16: OUTSIDE", x.turned(0, 2), OUTSIDE);
        due("16: OUTSIDE", x.turned(0, -1), OUTSIDE);
        due("16: refused ones are not done", x.count(10), 6);
        Due.dueText("16: as it would be", Due.sounds(x), "1111");
        Due.let(x, "2222");
        due("16: none needed", x.turned(12, 0), 0);
        due("16: none needed", x.turned(12, 1), 0);
        for (int done = 9; done <= 30; done++) {
            due("16: turned", x.turned(0, 0), 0);
        }
        due("16: done 30 times", x.count(10), 30);
        due("16: 31st", x.turned(0, 0), STATE);
        due("16: 31st, OUTSIDE first", x.turned(0, 5), OUTSIDE);
        Due.write(x, "c10,c10,c10;0");
        x.hall();
        due("16: in another hall", x.turned(0, 0), STATE);
        due("16: done 30 times", x.count(10), 30);
        ClappedWrong never = Due.with("c11,s10,s10;0");
        never.bar();
        due("16: none", never.turned(1, 0), NONE);
        due("16: none", never.turned(1, 1), NONE);
        due("16: none is done, too", never.count(10), 2);
        due("16: nobody to win", Due.with("s10,d10,s10;0").turned(0, 0), 0);
        ClappedWrong least = Due.with("c10,s50,c10,s30;0");
        Due.let(least, "1111");
        due("16: a stubborn one is turned", least.turned(1, 0), 1);
        due("16: a stubborn one is turned", least.turned(1, 1), 2);
        ClappedWrong like = Due.with("s30,c10,s30;0");
        Due.let(like, "131");
        // 3 + 1 against 3 by {0, 1} and by {1, 2}
        due("16: two", like.turned(2, 0), 2);
        due("16: the least bits of like ones", like.turned(2, 1), 3);
        Due.let(like, "333");
        due("16: the least bits of like ones", like.turned(2, 1), 1);
    }

    private static void promise17() {
        ClappedWrong x = new ClappedWrong();
        due("17: OUTSIDE", x.record(-1), OUTSIDE);
        due("17: OUTSIDE", x.record(73), OUTSIDE);
        due("17: without a hall", x.record(0), 1);
        due("17: the most", x.record(72), 2);
        for (int bars = 3; bars <= 8; bars++) {
            due("17: record", x.record(bars), bars);
        }
        due("17: FULL", x.record(0), FULL);
        due("17: OUTSIDE first", x.record(MAX), OUTSIDE);
        due("17: bars", x.count(7), 8);
    }

    private static void promise18() {
        ClappedWrong x = Due.with("c10,c10,c10;0");
        due("18: nothing", x.forget(), 0);
        x.record(1);
        x.record(2);
        due("18: forget", x.forget(), 2);
        due("18: empty", x.count(7), 0);
        due("18: forget again", x.forget(), 0);
        x.record(0);
        due("18: the old ones are gone", x.count(7), 1);
    }

    private static void promise19() {
        due("19: no hall", new ClappedWrong().began(0), STATE);
        due("19: OUTSIDE first", new ClappedWrong().began(2), OUTSIDE);
        ClappedWrong x = Due.with("s10,s20,s40;0");
        due("19: all ways", x.began(0), 12);
        due("19: the least", x.began(1), 4);
        x.record(6);
        // 2 + 4 palms: rows 1 and 2 on EVEN: 32 + 8 + 2 + 1
        due("19: one way", x.began(0), 1);
        due("19: which", x.began(1), 43);
        x.record(6);
        due("19: one way still", x.began(1), 43);
        x.record(5);
        due("19: no way", x.began(0), 0);
        due("19: no way", x.began(1), NONE);
        x.forget();
        x.record(4);
        // row 2 on EVEN with row 0 or row 1 on ODD: 0 + 8 + 1 and 32 + 8 + 1
        due("19: two ways", x.began(0), 2);
        due("19: the lesser", x.began(1), 9);
        x.forget();
        x.record(1);
        due("19: the lesser row on EVEN", x.began(1), 6);
        due("19: OUTSIDE", x.began(-1), OUTSIDE);
        due("19: OUTSIDE", x.began(2), OUTSIDE);
        due("19: done", x.count(11), 10);
        for (int done = 11; done <= 30; done++) {
            x.began(0);
        }
        due("19: 31st", x.began(0), STATE);
        due("19: 31st, OUTSIDE first", x.began(2), OUTSIDE);
        due("19: done", x.count(11), 30);
        ClappedWrong arm = Due.with("f10,f20,f40;0");
        arm.record(7);
        // 123, 223, 232 and 322 lead to 222
        due("19: without the arm", arm.began(0), 4);
        due("19: without the arm", arm.began(1), 5);
        arm.arm(8);
        due("19: the arm as now", arm.began(0), 12);
        ClappedWrong tiring = Due.with("s11,s20,s40;0");
        tiring.bar();
        tiring.record(1);
        tiring.record(0);
        due("19: nobody has clapped yet", tiring.began(0), 2);
        due("19: nobody has clapped yet", tiring.began(1), 6);
    }

    private static void promise20() {
        due("20: no hall", new ClappedWrong().nights(1, 0, 0), STATE);
        due("20: OUTSIDE first", new ClappedWrong().nights(61, 0, 0), OUTSIDE);
        ClappedWrong x = Due.with("c10,c20,c40;0");
        // seed 1 leads to 1103527590, by 65536: 16838, its rest by 6: 2, so the arm; then the next draw: 2524885223
        // less 2147483648: 377401575, by 65536: 5758, its rest by 9: 7
        due("20: seed", x.nights(1, 1, 2), 377401575);
        due("20: palms", x.nights(1, 1, 0), 0);
        due("20: OUTSIDE", x.nights(0, 0, 0), OUTSIDE);
        due("20: OUTSIDE", x.nights(61, 0, 0), OUTSIDE);
        due("20: OUTSIDE", x.nights(1, -1, 0), OUTSIDE);
        due("20: OUTSIDE", x.nights(1, MIN, 0), OUTSIDE);
        due("20: OUTSIDE", x.nights(1, 0, 3), OUTSIDE);
        due("20: OUTSIDE", x.nights(1, 0, -1), OUTSIDE);
        // seed 0 leads to 12345, by 65536: 0: a beat is left out, one draw alone
        due("20: seed", x.nights(1, 0, 2), 12345);
        Due.let(x, "111");
        due("20: a beat is left out", x.nights(1, 0, 0), 7);
        due("20: more than half", x.nights(1, 0, 1), 1);
        Due.dueText("20: as it would be", Due.sounds(x), "111");
        due("20: as it would be", x.count(6), 0);
        due("20: the greatest seed", x.nights(60, MAX, 2) >= 0 ? 1 : 0, 1);
        ClappedWrong half = Due.with("s10,d10,s20;0");
        Due.let(half, "112");
        due("20: half is not more than half", half.nights(1, 1, 1), 0);
        Due.let(half, "212");
        due("20: more than half", half.nights(1, 1, 1), 1);
        // seed 10 leads to 297746555, by 65536: 4543, its rest by 6: 1; then 1849040536, 28214, its rest by 3: 2
        ClappedWrong one = Due.with("s10,s20,s40;0");
        due("20: a row sounds 2", one.nights(1, 10, 0), 4);
        due("20: seed", one.nights(1, 10, 2), 1849040536);
        Due.dueText("20: as it would be", Due.sounds(one), "333");
        ClappedWrong arm = Due.with("f10,f20,f40;0");
        due("20: the arm is up", arm.nights(1, 1, 0), 7);
        // seed 34 leads to 1012308659, by 65536: 15446, its rest by 6: 2; then 762615920, 11636, its rest by 9: 8
        ClappedWrong all = Due.with("f10,f10,f10,f10,f10,f10,f10,f10;0");
        due("20: the arm is up for all", all.nights(1, 34, 0), 8);
        due("20: as it would be", arm.count(4), 0);
    }

    private static void promise21() {
        due("21: no hall", new ClappedWrong().image(), STATE);
        ClappedWrong x = Due.with("c10,c10,c10;0");
        due("21: image", x.image(), 0);
        x.bar();
        x.bar();
        due("21: image", x.image(), 2);
        due("21: the latest", x.restore(), 2);
    }

    private static void promise22() {
        due("22: no hall", new ClappedWrong().restore(), STATE);
        ClappedWrong x = Due.with("c14,s25,f30;1");
        due("22: none was kept", x.restore(), STATE);
        x.arm(2);
        x.clap(0, 1);
        x.bar();
        x.skip();
        x.record(3);
        x.record(4);
        x.image();
        long digest = x.digest();
        x.arm(8);
        x.bar();
        x.skip();
        x.clap(1, 0);
        x.forget();
        x.record(9);
        due("22: restore", x.restore(), 1);
        due("22: all is as it was", x.digest(), digest);
        due("22: the record, too", x.count(7), 2);
        x.bar();
        due("22: once more", x.restore(), 1);
        due("22: all is as it was", x.digest(), digest);
        x.turned(0, 0);
        x.began(0);
        x.letter('c');
        x.restore();
        due("22: what was done is no part of it", x.count(10), 1);
        due("22: what was done is no part of it", x.count(11), 1);
        due("22: the page is no part of it", x.count(8), 1);
        due("22: no hall, so the image stays", x.hall(), STATE);
        due("22: restore", x.restore(), 1);
        x.blank();
        Due.write(x, "c14,s25,f30;1");
        x.hall();
        due("22: another hall since", x.restore(), STATE);
        x.image();
        due("22: kept anew", x.restore(), 0);
        promise22Record();
    }

    private static void promise22Record() {
        ClappedWrong x = Due.with("s10,s20,s40;0");
        x.record(6);
        x.image();
        x.forget();
        x.record(5);
        x.restore();
        due("22: the palms of the record", x.began(1), 43);
    }

    private static void promise23() {
        ClappedWrong x = Due.with("c10,s20,c30;3");
        Due.let(x, "212");
        x.arm(2);
        x.bar();
        x.bar();
        x.skip();
        x.record(1);
        x.turned(0, 0);
        x.turned(0, 0);
        x.began(0);
        Due.write(x, "c10,");
        // 212, 112, 112, and 211 by the beat
        int[] due = {3, 3, 6, 1, 2, 2, 1, 1, 4, 1, 2, 1};
        for (int what = 0; what <= 11; what++) {
            due("23: count(" + what + ")", x.count(what), due[what]);
        }
        due("23: OUTSIDE", x.count(12), OUTSIDE);
        due("23: OUTSIDE", x.count(-1), OUTSIDE);
        due("23: OUTSIDE", x.count(MIN), OUTSIDE);
        due("23: OUTSIDE", x.count(MAX), OUTSIDE);
    }

    private static long told(ClappedWrong x, String page) {
        long h = 773;
        for (int row = 0; row < x.count(0); row++) {
            for (int what = 0; what <= 8; what++) {
                h = 31 * h + x.about(row, what);
            }
            for (int beat = 0; beat <= 3; beat++) {
                h = 31 * h + x.loud(row, beat);
            }
        }
        if (x.count(0) > 0) {
            h = 31 * h + x.rest();
            h = 31 * h + x.outcome(4);
            h = 31 * h + x.trick(4, 0);
            h = 31 * h + x.trick(4, 1);
        }
        for (char sign : page.toCharArray()) {
            h = 31 * h + sign;
        }
        for (int what = 0; what <= 11; what++) {
            h = 31 * h + x.count(what);
        }
        return h;
    }

    private static void promise24() {
        ClappedWrong x = new ClappedWrong();
        long empty = 773;
        for (int n = 0; n < 12; n++) {
            empty *= 31;
        }
        due("24: of a new object", x.digest(), empty);
        Due.write(x, "d1x");
        due("24: of a page", x.digest(), told(x, "d1x"));
        ClappedWrong y = Due.with(EIGHT + ";1");
        Due.write(y, ";~");
        Due.let(y, "11221231");
        y.arm(4);
        y.bar();
        due("24: of a hall", y.digest(), told(y, ";~"));
        due("24: it changes nothing", y.digest(), told(y, ";~"));
    }

    private static void refusedCallsChangeNothing() {
        ClappedWrong x = Due.with("c14,s25,f30;1");
        x.clap(0, 1);
        x.bar();
        for (int n = 0; n < 8; n++) {
            x.record(n);
        }
        for (int n = 0; n < 30; n++) {
            x.turned(0, 0);
            x.began(0);
        }
        Due.write(x, "c10,c10,c10;1" + ",".repeat(23));
        long digest = x.digest();
        int[] wrong = {MIN, -1, 127, MAX};
        for (int number : wrong) {
            due("letter", x.letter(number), OUTSIDE);
            due("about", x.about(number, 0), UNKNOWN);
            due("about", x.about(0, number), OUTSIDE);
            due("as", x.as(number, 0), UNKNOWN);
            due("as", x.as(0, number), OUTSIDE);
            due("clap", x.clap(number, 0), UNKNOWN);
            due("clap", x.clap(0, number), OUTSIDE);
            due("arm", x.arm(number), OUTSIDE);
            due("loud", x.loud(number, 0), UNKNOWN);
            due("loud", x.loud(0, number), OUTSIDE);
            due("outcome", x.outcome(number), OUTSIDE);
            due("trick", x.trick(number, 0), OUTSIDE);
            due("trick", x.trick(1, number), OUTSIDE);
            due("turned", x.turned(number, 0), OUTSIDE);
            due("turned", x.turned(1, number), OUTSIDE);
            due("record", x.record(number), OUTSIDE);
            due("began", x.began(number), OUTSIDE);
            due("nights", x.nights(number, 0, 0), OUTSIDE);
            due("nights", x.nights(1, 0, number), OUTSIDE);
            due("count", x.count(number), OUTSIDE);
        }
        due("letter", x.letter('c'), FULL);
        due("record", x.record(1), FULL);
        due("hall", x.hall(), STATE);
        due("turned", x.turned(0, 0), STATE);
        due("began", x.began(0), STATE);
        due("restore", x.restore(), STATE);
        due("digest", x.digest(), digest);
    }
}
