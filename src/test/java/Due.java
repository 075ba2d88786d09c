/** What the tests share: answers against those that are due, and pages that are written letter by letter. */
final class Due {
    private static int wrong = 0;
    private static int looked = 0;
    private static int sentences = 0;
    private static String sentence = "";

    private Due() {
    }

    /** What is looked at from here on is due by this sentence of the document. */
    static void sentence(String words) {
        sentences++;
        sentence = "[" + words + "] ";
    }

    static void due(String call, long got, long want) {
        looked++;
        if (got != want) {
            wrong++;
            System.out.println(sentence + call + " answered " + got + ", due is " + want);
        }
    }

    static void due(String what, boolean holds) {
        due(what, holds ? 1 : 0, 1);
    }

    static int wrongSoFar() {
        return wrong;
    }

    static void write(ClappedWrong x, String text) {
        for (char sign : text.toCharArray()) {
            x.letter(sign);
        }
    }

    static ClappedWrong with(String hall) {
        ClappedWrong x = new ClappedWrong();
        write(x, hall);
        due("hall() of " + hall, x.hall(), (hall.length() - 1) / 4);
        return x;
    }

    /** A new object in whose HALL all ROWS SOUND as told by digits. */
    static ClappedWrong with(String hall, String sounds) {
        ClappedWrong x = with(hall);
        let(x, sounds);
        return x;
    }

    /** So many like ROWS as the text of a HALL. */
    static String rows(int howMany, String row, int late) {
        return (row + ",").repeat(howMany - 1) + row + ";" + late;
    }

    /** Another HALL is read in its place. */
    static void read(ClappedWrong x, String hall) {
        x.blank();
        write(x, hall);
        due("hall() of " + hall, x.hall(), (hall.length() - 1) / 4);
    }

    static void bars(ClappedWrong x, int howMany) {
        for (int bar = 0; bar < howMany; bar++) {
            x.bar();
        }
    }

    /** What all ROWS SOUND, as a text of digits. */
    static String sounds(ClappedWrong x) {
        return each(x, 4);
    }

    static String each(ClappedWrong x, int what) {
        StringBuilder all = new StringBuilder();
        int rows = x.count(0);
        for (int row = 0; row < rows; row++) {
            all.append(x.about(row, what));
        }
        return all.toString();
    }

    static void dueText(String what, String got, String want) {
        looked++;
        if (!got.equals(want)) {
            wrong++;
            System.out.println(sentence + what + " is " + got + ", due is " + want);
        }
    }

    /** ROWS SOUND as told by digits, in front first. */
    static void let(ClappedWrong x, String sounds) {
        for (int row = 0; row < sounds.length(); row++) {
            int sound = sounds.charAt(row) - '0';
            boolean swap = x.about(row, 3) % 2 == 1 && (sound == 1 || sound == 2);
            x.clap(row, swap ? 3 - sound : sound);
        }
        dueText("what SOUNDS", sounds(x), sounds);
    }

    static void end() {
        String by = sentences == 0 ? "" : " by " + sentences + " sentences";
        System.out.println(looked + " answers" + by + ", " + wrong + " not as due");
        if (wrong != 0) {
            System.exit(1);
        }
    }
}
