import java.math.BigInteger;

/** Boundary cases of what a HALL is, of the ROWS in it, and of promises 1 to 7: a test for each sentence that names one. */
public final class HallEdgesTest {
    private static final int NONE = -1, UNKNOWN = -101, OUTSIDE = -102, STATE = -103, FULL = -104;
    private static final int MIN = Integer.MIN_VALUE, MAX = Integer.MAX_VALUE;
    private static final String THREE = "c10,c10,c10", EIGHT = "c10,s20,f30,e40,d50,c61,f72,e83";
    private static final int MOST_LETTERS = 36;

    private HallEdgesTest() {
    }

    public static void main(String[] args) {
        noHallAtFirst();
        threeToEightRows();
        numberedFromNought();
        commaBetween();
        kindLetter();
        palmsDigit();
        strengthDigit();
        semicolonBehindRows();
        lateDigit();
        nothingBehindLate();
        leastAndMostOfEach();
        letterCodes();
        letterFull();
        letterFullKeepsThePage();
        blankOfNone();
        blankOfAll();
        faultOfNone();
        faultBehindThoseAhead();
        faultIfThereIsNone();
        hallOfEachPrefix();
        hallAnotherIsGone();
        hallPageIsEmpty();
        hallRefused();
        aboutRow();
        aboutWhat();
        aboutLag();
        aboutClaps();
        aboutClappedAndTired();
        aboutStrengthNought();
        aboutSeesArm();
        asKind();
        asRefused();
        Due.end();
    }

    private static void due(String call, long got, long want) {
        Due.due(call, got, want);
    }

    private static ClappedWrong made() {
        return new ClappedWrong();
    }

    private static void noHallAtFirst() {
        Due.sentence("Promise 1: No HALL.");
        due("letter", made().letter('c'), 1);
        due("blank", made().blank(), 0);
        due("fault", made().fault(), 0);
        due("hall", made().hall(), STATE);
        due("about", made().about(0, 0), UNKNOWN);
        due("as", made().as(0, 0), UNKNOWN);
        due("clap", made().clap(0, 0), UNKNOWN);
        due("arm", made().arm(0), STATE);
        due("bar", made().bar(), STATE);
        due("skip", made().skip(), STATE);
        due("loud", made().loud(0, 0), UNKNOWN);
        due("rest", made().rest(), STATE);
        due("outcome", made().outcome(0), STATE);
        due("trick", made().trick(1, 0), STATE);
        due("turned", made().turned(0, 0), STATE);
        due("record", made().record(0), 1);
        due("forget", made().forget(), 0);
        due("began", made().began(0), STATE);
        due("nights", made().nights(1, 0, 0), STATE);
        due("image", made().image(), STATE);
        due("restore", made().restore(), STATE);
        for (int what = 0; what <= 11; what++) {
            due("count " + what, made().count(what), 0);
        }
        due("digest", made().digest(), BigInteger.valueOf(31).pow(12).multiply(BigInteger.valueOf(773)).longValue());
    }

    private static int hallOf(String text) {
        ClappedWrong x = made();
        Due.write(x, text);
        int told = x.hall();
        due("halls read behind " + text, x.count(9), told == STATE ? 0 : 1);
        due("ROWS behind " + text, x.count(0), told == STATE ? 0 : told);
        return told;
    }

    private static void threeToEightRows() {
        Due.sentence("three to eight ROWS");
        due("no row", hallOf(";0"), STATE);
        due("one row", hallOf("c10;0"), STATE);
        for (int rows = 2; rows <= 9; rows++) {
            due(rows + " rows", hallOf(Due.rows(rows, "c10", 0)), rows >= 3 && rows <= 8 ? rows : STATE);
        }
    }

    private static void numberedFromNought() {
        Due.sentence("numbered from 0, the first one in front");
        ClappedWrong x = Due.with(EIGHT + ";0");
        due("the first one", x.about(0, 1), 1);
        due("the last one", x.about(7, 1), 8);
        due("ahead of the first one", x.about(-1, 1), UNKNOWN);
        due("behind the last one", x.about(8, 1), UNKNOWN);
        x.arm(1);
        Due.dueText("in front", Due.each(x, 8), "10000000");
    }

    /** Of all letters just these are taken behind the text. */
    private static void takes(String text, String signs) {
        for (int code = 1; code <= 126; code++) {
            ClappedWrong x = made();
            Due.write(x, text);
            x.letter(code);
            due("fault of " + text + " and " + code, x.fault(), text.length() + (signs.indexOf(code) >= 0 ? 1 : 0));
        }
    }

    private static String rowsOnly(int howMany) {
        String text = Due.rows(howMany, "d99", 0);
        return text.substring(0, text.length() - 2);
    }

    private static void commaBetween() {
        Due.sentence("with \",\" between");
        takes(rowsOnly(1), ",");
        takes(rowsOnly(2), ",");
        takes(rowsOnly(1) + ",", "csfed");
        takes(rowsOnly(7) + ",", "csfed");
        due("one ahead", hallOf("," + THREE + ";0"), STATE);
        due("one behind", hallOf(THREE + ",;0"), STATE);
        due("two", hallOf("c10,,c10,c10;0"), STATE);
    }

    private static void kindLetter() {
        Due.sentence("a letter, the KIND; 0 CLAPPER c, 1 STUBBORN s, 2 FOLLOWING f, 3 EASY e, 4 DEAF d");
        takes("", "csfed");
        takes("c10,", "csfed");
        Due.dueText("kinds", Due.each(Due.with("c10,s10,f10,e10,d10;0"), 0), "01234");
    }

    private static void palmsDigit() {
        Due.sentence("a digit PALMS (1 to 9)");
        takes("c", "123456789");
        takes(rowsOnly(7) + ",e", "123456789");
    }

    private static void strengthDigit() {
        Due.sentence("a digit STRENGTH (0 to 9)");
        takes("c1", "0123456789");
        takes(rowsOnly(7) + ",e9", "0123456789");
    }

    private static void semicolonBehindRows() {
        Due.sentence("three to eight ROWS; then \";\"");
        for (int rows = 3; rows <= 7; rows++) {
            takes(rowsOnly(rows), ",;");
        }
        takes(rowsOnly(8), ";");
    }

    private static void lateDigit() {
        Due.sentence("a digit LATE (0 to 3)");
        for (int rows = 3; rows <= 8; rows++) {
            takes(rowsOnly(rows) + ";", "0123");
        }
        for (int late = 0; late <= 3; late++) {
            due("late", Due.with(THREE + ";" + late).count(1), late);
        }
    }

    private static void nothingBehindLate() {
        Due.sentence("then \";\" and a digit LATE");
        for (int rows = 3; rows <= 8; rows++) {
            takes(Due.rows(rows, "s55", 3), "");
            due("a letter too many", hallOf(Due.rows(rows, "s55", 3) + "3"), STATE);
        }
    }

    private static void leastAndMostOfEach() {
        Due.sentence("PALMS (1 to 9), STRENGTH (0 to 9), LATE (0 to 3)");
        ClappedWrong least = Due.with("c10,c10,c10;0");
        Due.dueText("least palms", Due.each(least, 1), "111");
        Due.dueText("least strength", Due.each(least, 2), "000");
        due("palms of all", least.count(2), 3);
        ClappedWrong most = Due.with(Due.rows(8, "d99", 3));
        Due.dueText("most palms", Due.each(most, 1), "99999999");
        Due.dueText("most strength", Due.each(most, 2), "99999999");
        due("palms of all", most.count(2), 72);
        due("most late", most.count(1), 3);
    }

    private static void letterCodes() {
        Due.sentence("Promise 2: OUTSIDE: code (1 to 126)");
        ClappedWrong x = made();
        for (int code : new int[] {0, 127, -1, 128, 255, 256, 256 + 'c', 65536 + 'c', -126, MIN, MIN + 1, MIN + 'c', MAX}) {
            due("letter " + code, x.letter(code), OUTSIDE);
        }
        due("nothing came", x.count(8), 0);
        due("letter 1", x.letter(1), 1);
        due("letter 126", x.letter(126), 2);
        due("letters", x.count(8), 2);
        due("the letters", x.digest(), digestOfPage("\u0001~"));
    }

    private static void letterFull() {
        Due.sentence("Promise 2: FULL: above 36");
        ClappedWrong x = made();
        for (int letter = 1; letter <= MOST_LETTERS; letter++) {
            due("letter", x.letter('c'), letter);
        }
        due("one above", x.letter('c'), FULL);
        due("one more above", x.letter(126), FULL);
        due("letters", x.count(8), MOST_LETTERS);
        Due.sentence("Promise 2: OUTSIDE: code (1 to 126); FULL: above 36 (of several the first)");
        for (int code : new int[] {0, 127, MIN, MAX}) {
            due("both", x.letter(code), OUTSIDE);
        }
    }

    /** Without a HALL only the letters and how many they are differ from a new object's. */
    private static long digestOfPage(String page) {
        BigInteger h = BigInteger.valueOf(773);
        BigInteger by = BigInteger.valueOf(31);
        for (char sign : page.toCharArray()) {
            h = h.multiply(by).add(BigInteger.valueOf(sign));
        }
        for (int what = 0; what <= 11; what++) {
            h = h.multiply(by).add(BigInteger.valueOf(what == 8 ? page.length() : 0));
        }
        return h.longValue();
    }

    private static void letterFullKeepsThePage() {
        Due.sentence("they change nothing (a letter on a full PAGE)");
        String page = EIGHT + ";2xyz";
        ClappedWrong x = made();
        Due.write(x, page);
        due("the page", x.digest(), digestOfPage(page));
        x.letter('q');
        x.letter(0);
        due("the page as it was", x.digest(), digestOfPage(page));
        due("fault as it was", x.fault(), 33);
    }

    private static void blankOfNone() {
        Due.sentence("Promise 3: THE PAGE is empty: how many letters it had (none)");
        ClappedWrong x = made();
        due("blank", x.blank(), 0);
        due("blank again", x.blank(), 0);
        due("letters", x.count(8), 0);
        due("as new", x.digest(), digestOfPage(""));
    }

    private static void blankOfAll() {
        Due.sentence("Promise 3: THE PAGE is empty: how many letters it had (36)");
        ClappedWrong x = made();
        Due.write(x, "x".repeat(MOST_LETTERS));
        due("blank", x.blank(), MOST_LETTERS);
        due("blank again", x.blank(), 0);
        due("as new", x.digest(), digestOfPage(""));
        for (int letter = 1; letter <= MOST_LETTERS; letter++) {
            due("room for 36 again", x.letter('y'), letter);
        }
        due("and no more", x.letter('y'), FULL);
        due("the new letters", x.digest(), digestOfPage("y".repeat(MOST_LETTERS)));
        ClappedWrong one = made();
        one.letter('c');
        due("one letter", one.blank(), 1);
    }

    private static int fault(String page) {
        ClappedWrong x = made();
        Due.write(x, page);
        int told = x.fault();
        due("fault again", x.fault(), told);
        due("fault leaves the page", x.digest(), digestOfPage(page));
        return told;
    }

    private static void faultOfNone() {
        Due.sentence("Promise 4: how many letters it has, if there is none (an empty PAGE)");
        due("fault", fault(""), 0);
        ClappedWrong x = Due.with(THREE + ";0");
        due("fault of the page that was read", x.fault(), 0);
    }

    private static void faultBehindThoseAhead() {
        Due.sentence("Promise 4: The place (from 0) of the first letter that no HALL has there, behind those ahead of it");
        String whole = EIGHT + ";2";
        for (int place = 0; place < whole.length(); place++) {
            due("fault at " + place, fault(whole.substring(0, place) + "x" + whole.substring(place + 1)), place);
            due("the first of two at " + place, fault(whole.substring(0, place) + "x0;"), place);
        }
        due("behind a whole one", fault(whole + "c"), 33);
        due("the last letter of a full page", fault(EIGHT + ";2;;;"), 33);
        due("nine rows", fault(EIGHT + ",c10"), 31);
        due("two rows", fault("c10,c10;0"), 7);
        due("one row", fault("c10;0"), 3);
    }

    private static void faultIfThereIsNone() {
        Due.sentence("Promise 4: how many letters it has, if there is none");
        for (int rows = 3; rows <= 8; rows++) {
            String whole = Due.rows(rows, "e19", 1);
            for (int length = 0; length <= whole.length(); length++) {
                due("fault of a prefix", fault(whole.substring(0, length)), length);
            }
        }
    }

    private static void hallOfEachPrefix() {
        Due.sentence("Promise 5: STATE: it is none (too short, too long)");
        for (int rows = 3; rows <= 8; rows++) {
            String whole = Due.rows(rows, "f37", 2);
            for (int length = 0; length < whole.length(); length++) {
                due("a prefix of " + length, hallOf(whole.substring(0, length)), STATE);
            }
            due("whole", hallOf(whole), rows);
            due("one letter more", hallOf(whole + "0"), STATE);
        }
        due("a full page", hallOf(EIGHT + ";2   "), STATE);
    }

    private static void hallAnotherIsGone() {
        Due.sentence("Promise 5: another one is gone, with the ARM, BARS, the RECORD");
        ClappedWrong x = Due.with(EIGHT + ";3", "12121212");
        x.arm(8);
        Due.bars(x, 3);
        x.skip();
        for (int bar = 0; bar < 8; bar++) {
            x.record(72);
        }
        Due.read(x, Due.rows(3, "c20", 1));
        int[] want = {3, 1, 6, 0, 0, 0, 0, 0, 0, 2, 0, 0};
        for (int what = 0; what <= 11; what++) {
            due("count " + what, x.count(what), want[what]);
        }
        Due.dueText("what SOUNDS", Due.sounds(x), "333");
        Due.dueText("nobody has clapped", Due.each(x, 6), "000");
        due("rows of the other one", x.about(3, 0), UNKNOWN);
        due("an empty record", x.began(0), 12);
        for (int bar = 1; bar <= 8; bar++) {
            due("room for 8 bars again", x.record(0), bar);
        }
        due("and no more", x.record(0), FULL);
        Due.read(x, EIGHT + ";0");
        Due.dueText("a greater one", Due.sounds(x), "33333333");
        Due.dueText("nobody has clapped", Due.each(x, 6), "00000000");
    }

    private static void hallPageIsEmpty() {
        Due.sentence("Promise 5: THE PAGE is empty then");
        ClappedWrong x = Due.with(EIGHT + ";0");
        due("letters", x.count(8), 0);
        due("fault", x.fault(), 0);
        due("blank", x.blank(), 0);
        due("hall of an empty page", x.hall(), STATE);
        for (int letter = 1; letter <= MOST_LETTERS; letter++) {
            due("room for 36", x.letter('c'), letter);
        }
        due("and no more", x.letter('c'), FULL);
    }

    private static void hallRefused() {
        Due.sentence("Promise 5: STATE: it is none; they change nothing");
        ClappedWrong x = Due.with("c12,f20,s30;1", "121");
        x.arm(1);
        x.bar();
        x.record(4);
        x.image();
        for (String page : new String[] {"", "c10,c10;0", THREE, THREE + ";", THREE + ";00", EIGHT + ",c10;0"}) {
            x.blank();
            Due.write(x, page);
            long before = x.digest();
            due("hall of " + page, x.hall(), STATE);
            due("all is as it was", x.digest(), before);
        }
        due("the image stays", x.restore(), 1);
        due("halls read", x.count(9), 1);
    }

    private static void aboutRow() {
        Due.sentence("Promise 6: UNKNOWN (a number names nothing)");
        for (int rows = 3; rows <= 8; rows++) {
            ClappedWrong x = Due.with(Due.rows(rows, "c90", 0));
            due("the first row", x.about(0, 1), 9);
            due("the last row of " + rows, x.about(rows - 1, 1), 9);
            for (int row : new int[] {rows, rows + 1, 8, -1, -rows, MIN, MAX}) {
                for (int what = 0; what <= 8; what++) {
                    due("row " + row + " of " + rows, x.about(row, what), UNKNOWN);
                }
            }
        }
    }

    private static void aboutWhat() {
        Due.sentence("Promise 6: UNKNOWN; OUTSIDE: what = 0 to 8");
        ClappedWrong x = Due.with("e95,c10,c10;0");
        int[] want = {3, 9, 5, 0, 3, 3, 0, 0, 0};
        for (int what = 0; what <= 8; what++) {
            due("what " + what, x.about(0, what), want[what]);
        }
        for (int what : new int[] {-1, 9, 10, MIN, MAX}) {
            due("what " + what, x.about(0, what), OUTSIDE);
            due("what " + what, x.about(2, what), OUTSIDE);
            due("UNKNOWN first", x.about(3, what), UNKNOWN);
            due("UNKNOWN first", x.about(-1, what), UNKNOWN);
            due("UNKNOWN first, no hall", made().about(0, what), UNKNOWN);
        }
    }

    private static void aboutLag() {
        Due.sentence("LAG: its number by LATE, rounded down (LATE 0: 0)");
        String[] want = {"00000000", "01234567", "00112233", "00011122"};
        for (int late = 0; late <= 3; late++) {
            Due.dueText("lags by " + late, Due.each(Due.with(EIGHT + ";" + late), 3), want[late]);
        }
    }

    private static void aboutClaps() {
        Due.sentence("what it CLAPS: ODD for EVEN and EVEN for ODD, if its LAG is odd; else what SOUNDS");
        String[] likeAll = {"00000000", "11111111", "22222222", "33333333"};
        for (int sound = 0; sound <= 3; sound++) {
            String sounds = likeAll[sound];
            Due.dueText("late 0", Due.each(Due.with(EIGHT + ";0", sounds), 5), sounds);
        }
        Due.dueText("late 1, 0", Due.each(Due.with(EIGHT + ";1", likeAll[0]), 5), "00000000");
        Due.dueText("late 1, 1", Due.each(Due.with(EIGHT + ";1", likeAll[1]), 5), "12121212");
        Due.dueText("late 1, 2", Due.each(Due.with(EIGHT + ";1", likeAll[2]), 5), "21212121");
        Due.dueText("late 1, 3", Due.each(Due.with(EIGHT + ";1", likeAll[3]), 5), "33333333");
        Due.dueText("late 2, 1", Due.each(Due.with(EIGHT + ";2", likeAll[1]), 5), "11221122");
        Due.dueText("late 2, 2", Due.each(Due.with(EIGHT + ";2", likeAll[2]), 5), "22112211");
        Due.dueText("late 3, 1", Due.each(Due.with(EIGHT + ";3", likeAll[1]), 5), "11122211");
        Due.dueText("late 3, 2", Due.each(Due.with(EIGHT + ";3", likeAll[2]), 5), "22211122");
    }

    private static void aboutClappedAndTired() {
        Due.sentence("TIRED, if STRENGTH is not 0, and it has clapped so many BARS since it SOUNDED 0 last");
        for (int strength = 1; strength <= 9; strength++) {
            ClappedWrong x = Due.with("s1" + strength + ",s10,s10;0", "133");
            for (int bar = 0; bar < strength; bar++) {
                due("clapped", x.about(0, 6), bar);
                due("not tired behind " + bar + " of " + strength, x.about(0, 7), 0);
                due("it sounds", x.about(0, 4), 1);
                x.bar();
            }
            due("clapped", x.about(0, 6), strength);
            due("tired behind " + strength, x.about(0, 7), 1);
            due("it sounds still", x.about(0, 4), 1);
            x.bar();
            due("silent", x.about(0, 4), 0);
            due("clapped since then", x.about(0, 6), 0);
            due("tired no more", x.about(0, 7), 0);
            x.bar();
            due("on all four", x.about(0, 4), 3);
            due("clapped since then", x.about(0, 6), 1);
            due("tired again", x.about(0, 7), strength == 1 ? 1 : 0);
        }
    }

    private static void aboutStrengthNought() {
        Due.sentence("TIRED, if STRENGTH is not 0");
        ClappedWrong x = Due.with("c10,c10,c10;0", "123");
        for (int bar = 1; bar <= 100; bar++) {
            x.bar();
            due("clapped", x.about(0, 6), bar);
            due("not tired", x.about(0, 7), 0);
        }
    }

    private static void aboutSeesArm() {
        Due.sentence("Promise 6: 8 whether it sees the ARM (it is up for so many ROWS from the front; 0 at first)");
        ClappedWrong x = Due.with(EIGHT + ";0");
        Due.dueText("at first", Due.each(x, 8), "00000000");
        for (int rows = 0; rows <= 8; rows++) {
            x.arm(rows);
            Due.dueText("arm " + rows, Due.each(x, 8), "1".repeat(rows) + "0".repeat(8 - rows));
        }
        ClappedWrong three = Due.with(THREE + ";0");
        three.arm(8);
        Due.dueText("more than there are", Due.each(three, 8), "111");
    }

    private static void asKind() {
        Due.sentence("Promise 7: its number; NONE: it is none such. All are CLAPPERS; a DEAF one is STUBBORN, too");
        String[] takenAs = {"10000", "11000", "10100", "10010", "11001"};
        ClappedWrong front = Due.with("c10,s10,f10,e10,d10;0");
        ClappedWrong back = Due.with("c10,c10,c10,c10,s10,f10,e10,d10;0");
        for (int kind = 0; kind <= 4; kind++) {
            for (int row = 0; row < 5; row++) {
                due("row " + row + " as " + kind, front.as(row, kind), takenAs[row].charAt(kind) == '1' ? row : NONE);
            }
            for (int row = 4; row < 8; row++) {
                due("row " + row + " as " + kind, back.as(row, kind), takenAs[row - 3].charAt(kind) == '1' ? row : NONE);
            }
        }
    }

    private static void asRefused() {
        Due.sentence("Promise 7: UNKNOWN; OUTSIDE");
        ClappedWrong x = Due.with("d10,d10,d10;0");
        for (int row : new int[] {-1, 3, 7, 8, MIN, MAX}) {
            due("row " + row, x.as(row, 0), UNKNOWN);
            due("row " + row + ", UNKNOWN first", x.as(row, 5), UNKNOWN);
            due("row " + row + ", UNKNOWN first", x.as(row, MIN), UNKNOWN);
        }
        for (int kind : new int[] {-1, 5, 'c', MIN, MAX}) {
            due("kind " + kind, x.as(0, kind), OUTSIDE);
            due("kind " + kind, x.as(2, kind), OUTSIDE);
            due("no hall, UNKNOWN first", made().as(0, kind), UNKNOWN);
        }
        due("the last kind", x.as(2, 4), 2);
        due("the first kind", x.as(0, 0), 0);
    }
}
