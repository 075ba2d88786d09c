import java.util.ArrayList;
import java.util.List;
import java.util.function.Consumer;
import java.util.function.ToLongFunction;

/**
 * "Refusals, of several the first as told by each call: UNKNOWN, OUTSIDE, STATE, FULL; they change nothing": each refusal
 * of each call by itself, in five states. Behind it the object must answer many calls as its twin does that never heard
 * of the refused call.
 */
public final class RefusalsTest {
    private static final int UNKNOWN = -101, OUTSIDE = -102, STATE = -103, FULL = -104;
    private static final int MIN = Integer.MIN_VALUE, MAX = Integer.MAX_VALUE;

    private record Refused(String name, int due, ToLongFunction<ClappedWrong> call) {
    }

    private static final List<Refused> LIST = new ArrayList<>();

    private RefusalsTest() {
    }

    public static void main(String[] args) {
        outsideInAnyState();
        unknownInAnyState();
        noHallRefusals();
        run("a new object", RefusalsTest::newObject);
        outsideInAnyState();
        unknownInAnyState();
        noHallRefusals();
        run("no HALL, a PAGE and a RECORD", RefusalsTest::pageAndRecord);
        outsideInAnyState();
        unknownInAnyState();
        outsideOfRows();
        refuse("hall()", STATE, x -> x.hall());
        run("a night with an IMAGE", RefusalsTest::nightWithImage);
        outsideInAnyState();
        unknownInAnyState();
        outsideOfRows();
        fullRefusals();
        run("all that can be full", RefusalsTest::allFull);
        outsideInAnyState();
        unknownInAnyState();
        outsideOfRows();
        refuse("restore()", STATE, x -> x.restore());
        run("another HALL since the IMAGE", RefusalsTest::anotherHall);
        Due.end();
    }

    private static void refuse(String name, int due, ToLongFunction<ClappedWrong> call) {
        LIST.add(new Refused(name, due, call));
    }

    private static void run(String state, Consumer<ClappedWrong> reach) {
        ClappedWrong twin = new ClappedWrong();
        reach.accept(twin);
        List<Long> want = answers(twin);
        for (Refused each : LIST) {
            Due.sentence(state + ": " + each.name);
            ClappedWrong x = new ClappedWrong();
            reach.accept(x);
            long before = x.digest();
            Due.due("the call", each.call.applyAsLong(x), each.due);
            Due.due("digest", x.digest(), before);
            Due.due("the call again", each.call.applyAsLong(x), each.due);
            Due.dueText("what all else answers", answers(x).toString(), want.toString());
        }
        LIST.clear();
    }

    // ---- the states

    private static void newObject(ClappedWrong x) {
        Due.due("no hall", x.count(0), 0);
    }

    private static void pageAndRecord(ClappedWrong x) {
        Due.write(x, "c10,s2");
        x.record(3);
        x.record(72);
    }

    private static void nightWithImage(ClappedWrong x) {
        Due.write(x, "c14,f25,e36,d13,s10;1");
        x.hall();
        x.clap(0, 1);
        x.clap(1, 2);
        x.arm(1);
        x.bar();
        x.record(4);
        x.image();
        x.clap(2, 2);
        x.bar();
        x.skip();
        x.record(5);
        x.arm(3);
        Due.write(x, "c10,c10,c10,");
    }

    private static void allFull(ClappedWrong x) {
        Due.write(x, "c14,f25,e36;1");
        x.hall();
        x.clap(0, 1);
        x.bar();
        for (int bar = 0; bar < 8; bar++) {
            x.record(bar);
        }
        for (int time = 0; time < 30; time++) {
            x.turned(0, 0);
            x.began(0);
        }
        Due.write(x, "c10,c10,c10;1" + "c".repeat(23));
    }

    private static void anotherHall(ClappedWrong x) {
        nightWithImage(x);
        x.blank();
        Due.write(x, "e11,d22,f33;2");
        x.hall();
        x.clap(2, 1);
        x.bar();
        Due.write(x, "s");
    }

    // ---- the refusals

    private static int[] beyond(int least, int most) {
        return new int[] {least - 1, most + 1, MIN, MAX};
    }

    private static void outsideInAnyState() {
        for (int n : beyond(1, 126)) {
            refuse("letter(" + n + ")", OUTSIDE, x -> x.letter(n));
        }
        for (int n : beyond(0, 8)) {
            refuse("arm(" + n + ")", OUTSIDE, x -> x.arm(n));
        }
        for (int n : beyond(0, 30)) {
            refuse("outcome(" + n + ")", OUTSIDE, x -> x.outcome(n));
        }
        for (int n : beyond(1, 12)) {
            refuse("trick(" + n + ", 0)", OUTSIDE, x -> x.trick(n, 0));
        }
        for (int n : beyond(0, 12)) {
            refuse("turned(" + n + ", 0)", OUTSIDE, x -> x.turned(n, 0));
        }
        for (int n : beyond(0, 1)) {
            refuse("trick(1, " + n + ")", OUTSIDE, x -> x.trick(1, n));
            refuse("trick(13, " + n + ")", OUTSIDE, x -> x.trick(13, n));
            refuse("turned(0, " + n + ")", OUTSIDE, x -> x.turned(0, n));
            refuse("turned(-1, " + n + ")", OUTSIDE, x -> x.turned(-1, n));
            refuse("began(" + n + ")", OUTSIDE, x -> x.began(n));
        }
        for (int n : beyond(0, 72)) {
            refuse("record(" + n + ")", OUTSIDE, x -> x.record(n));
        }
        for (int n : beyond(1, 60)) {
            refuse("nights(" + n + ", 0, 0)", OUTSIDE, x -> x.nights(n, 0, 0));
        }
        for (int n : new int[] {-1, MIN}) {
            refuse("nights(1, " + n + ", 0)", OUTSIDE, x -> x.nights(1, n, 0));
            refuse("nights(0, " + n + ", 3)", OUTSIDE, x -> x.nights(0, n, 3));
        }
        for (int n : beyond(0, 2)) {
            refuse("nights(1, 0, " + n + ")", OUTSIDE, x -> x.nights(1, 0, n));
        }
        for (int n : beyond(0, 11)) {
            refuse("count(" + n + ")", OUTSIDE, x -> x.count(n));
        }
    }

    private static void unknownInAnyState() {
        for (int row : beyond(0, 7)) {
            for (int n : new int[] {0, -1, 9}) {
                refuse("about(" + row + ", " + n + ")", UNKNOWN, x -> x.about(row, n));
                refuse("as(" + row + ", " + n + ")", UNKNOWN, x -> x.as(row, n));
                refuse("clap(" + row + ", " + n + ")", UNKNOWN, x -> x.clap(row, n));
                refuse("loud(" + row + ", " + n + ")", UNKNOWN, x -> x.loud(row, n));
            }
        }
    }

    private static void noHallRefusals() {
        for (int n : new int[] {0, 1, -1, 9}) {
            refuse("about(0, " + n + ")", UNKNOWN, x -> x.about(0, n));
            refuse("as(0, " + n + ")", UNKNOWN, x -> x.as(0, n));
            refuse("clap(0, " + n + ")", UNKNOWN, x -> x.clap(0, n));
            refuse("loud(0, " + n + ")", UNKNOWN, x -> x.loud(0, n));
        }
        refuse("hall()", STATE, x -> x.hall());
        refuse("arm(0)", STATE, x -> x.arm(0));
        refuse("arm(8)", STATE, x -> x.arm(8));
        refuse("bar()", STATE, x -> x.bar());
        refuse("skip()", STATE, x -> x.skip());
        refuse("rest()", STATE, x -> x.rest());
        refuse("outcome(0)", STATE, x -> x.outcome(0));
        refuse("outcome(30)", STATE, x -> x.outcome(30));
        refuse("trick(1, 0)", STATE, x -> x.trick(1, 0));
        refuse("trick(12, 1)", STATE, x -> x.trick(12, 1));
        refuse("turned(0, 0)", STATE, x -> x.turned(0, 0));
        refuse("turned(12, 1)", STATE, x -> x.turned(12, 1));
        refuse("began(0)", STATE, x -> x.began(0));
        refuse("began(1)", STATE, x -> x.began(1));
        refuse("nights(1, 0, 0)", STATE, x -> x.nights(1, 0, 0));
        refuse("nights(60, max, 2)", STATE, x -> x.nights(60, MAX, 2));
        refuse("image()", STATE, x -> x.image());
        refuse("restore()", STATE, x -> x.restore());
    }

    private static void outsideOfRows() {
        for (int row : new int[] {0, 2}) {
            for (int n : beyond(0, 8)) {
                refuse("about(" + row + ", " + n + ")", OUTSIDE, x -> x.about(row, n));
            }
            for (int n : beyond(0, 4)) {
                refuse("as(" + row + ", " + n + ")", OUTSIDE, x -> x.as(row, n));
            }
            for (int n : beyond(0, 3)) {
                refuse("clap(" + row + ", " + n + ")", OUTSIDE, x -> x.clap(row, n));
                refuse("loud(" + row + ", " + n + ")", OUTSIDE, x -> x.loud(row, n));
            }
        }
    }

    private static void fullRefusals() {
        refuse("letter('c')", FULL, x -> x.letter('c'));
        refuse("letter(1)", FULL, x -> x.letter(1));
        refuse("letter(126)", FULL, x -> x.letter(126));
        refuse("record(0)", FULL, x -> x.record(0));
        refuse("record(72)", FULL, x -> x.record(72));
        refuse("turned(0, 0)", STATE, x -> x.turned(0, 0));
        refuse("turned(12, 1)", STATE, x -> x.turned(12, 1));
        refuse("began(0)", STATE, x -> x.began(0));
        refuse("began(1)", STATE, x -> x.began(1));
        refuse("hall()", STATE, x -> x.hall());
        refuse("restore()", STATE, x -> x.restore());
    }

    // ---- what a twin answers

    /** Calls that bring to light all that an object holds, the RECORD's PALMS and the IMAGE, too. */
    private static List<Long> answers(ClappedWrong x) {
        List<Long> all = new ArrayList<>();
        all.add(x.digest());
        all.add((long) x.fault());
        record(all, x);
        for (int bar = 0; bar < 3; bar++) {
            all.add((long) x.bar());
            all.add(x.digest());
        }
        all.add((long) x.skip());
        all.add((long) x.restore());
        all.add(x.digest());
        record(all, x);
        all.add((long) x.letter('c'));
        all.add((long) x.record(1));
        all.add((long) x.image());
        all.add((long) x.forget());
        all.add((long) x.blank());
        all.add(x.digest());
        Due.write(x, "c11,f22,s33;1");
        all.add((long) x.hall());
        all.add((long) x.restore());
        all.add(x.digest());
        return all;
    }

    private static void record(List<Long> all, ClappedWrong x) {
        all.add((long) x.turned(3, 1));
        all.add((long) x.began(0));
        all.add((long) x.began(1));
        for (int what = 0; what <= 2; what++) {
            all.add((long) x.nights(20, 7, what));
        }
    }
}
