import java.util.ArrayList;
import java.util.Arrays;
import java.util.List;
import java.util.function.Supplier;

/**
 * Two objects that have had the same calls. One of them is asked what is refused, and then both are looked through:
 * a call that was refused has changed nothing if they still answer alike. Each has fewer than 512 calls in all.
 */
final class Twins {
    final FiveCards asked;
    private final FiveCards other;

    Twins(Supplier<FiveCards> maker) {
        asked = maker.get();
        other = maker.get();
    }

    /** Something of everything, and room for more of it. */
    static Twins usual() {
        return new Twins(Twins::somewhatFilled);
    }

    /** As much of everything as there may be. */
    static Twins full() {
        return new Twins(Twins::wholeFilled);
    }

    private static FiveCards somewhatFilled() {
        FiveCards x = new FiveCards();
        x.pack(32001);
        x.pack(11100);
        x.run(0, 0, 3);
        x.run(1, 1, 4);
        x.run(0, 0, 5);
        x.leak(0, 2, 0);
        x.leak(2, 1, 1);
        x.leak(5, 1, 4);
        x.screen(5, 1);
        x.screen(7, 36);
        x.shut(1, 1);
        x.slip(0, 3, 1);
        x.slip(1, 2, 2);
        x.force(Check.read(x, "stop 2<hits;keep 1<hits;say hits*100+leaks*10+next;"));
        x.image();
        x.run(1, 1, 6);
        x.cut(0, 2);
        x.slip(1, 0, 3);
        x.shut(0, 1);
        x.shut(1, 0);
        x.force(0);
        Check.feed(x, "stop 0;ke");
        row(x, 0, 0, 1, 0, 2, 3, 4, 0);
        row(x, 1, 1, 1, 1, 4);
        row(x, 2, 2, 0, 1, 3, 0, 0);
        return x;
    }

    private static FiveCards wholeFilled() {
        FiveCards x = new FiveCards();
        x.pack(1);
        x.pack(11100);
        x.pack(10);
        x.pack(1000);
        for (int k = 0; k < 16; k++) {
            x.run(k == 7 ? 1 : 0, k % 2, k);
        }
        for (int k = 0; k < 10; k++) {
            x.leak(k % 6, k, k % 5);
        }
        for (int k = 0; k < 6; k++) {
            x.screen(5 + k, 1 << k);
        }
        for (int k = 1; k < 6; k++) {
            Check.read(x, "stop 0;keep 1;say " + k + ";");
        }
        x.force(3);
        x.image();
        x.slip(7, 1, 1);
        x.shut(2, 1);
        x.force(4);
        for (int k = 0; k < 20; k++) {
            x.feed(8, 0x3b3030303b303030L);
        }
        for (int sheet = 0; sheet < 4; sheet++) {
            x.sheet(sheet, sheet % 3, 40);
            x.cell(sheet, 39, 3);
        }
        return x;
    }

    private static void row(FiveCards x, int sheet, int sort, int... items) {
        x.sheet(sheet, sort, items.length);
        for (int i = 0; i < items.length; i++) {
            x.cell(sheet, i, items[i]);
        }
    }

    /** Both are looked through to the end; nothing can be asked of them afterwards. */
    void areAlike(String after) {
        List<String> due = lookedThrough(other);
        List<String> got = lookedThrough(asked);
        for (int k = 0; k < due.size(); k++) {
            Check.holds("nothing changed by " + after + ": " + due.get(k) + " but " + got.get(k),
                due.get(k).equals(got.get(k)));
        }
    }

    private static List<String> lookedThrough(FiveCards x) {
        List<String> seen = new ArrayList<>();
        counts(x, seen);
        runs(x, seen);
        leaks(x, seen);
        series(x, seen);
        sheets(x, seen);
        tape(x, seen);
        seen.add("back() " + x.back());
        runs(x, seen);
        leaks(x, seen);
        counts(x, seen);
        return seen;
    }

    private static void counts(FiveCards x, List<String> seen) {
        for (int what = 0; what < 8; what++) {
            seen.add("count(" + what + ") " + x.count(what));
        }
    }

    // of many RUNS the eighth is looked at, and some others
    private static void runs(FiveCards x, List<String> seen) {
        int step = x.count(1) > 8 ? 7 : 1;
        for (int run = 0; run < x.count(1); run += step) {
            for (int what = 0; what < 14; what++) {
                seen.add("told(" + run + ", " + what + ") " + x.told(run, what));
            }
            seen.add("cards of run " + run + " " + Arrays.toString(Check.row(x, run, 0)));
            seen.add("guesses of run " + run + " " + Arrays.toString(Check.row(x, run, 1)));
        }
    }

    private static void leaks(FiveCards x, List<String> seen) {
        for (int leak = 0; leak < x.count(2); leak++) {
            seen.add("gives(" + leak + ", 0) " + x.gives(leak, 0));
            seen.add("counts(" + leak + ") " + x.counts(leak));
            seen.add("taken(" + leak + ", 0) " + x.taken(leak, 0));
        }
        for (int screen = 0; screen < x.count(3); screen++) {
            seen.add("weighs(1 << " + screen + ") " + x.weighs(1 << screen));
        }
        seen.add("plan(5, 1) " + x.plan(5, 1));
    }

    private static void series(FiveCards x, List<String> seen) {
        for (int guesser = 0; guesser < 2; guesser++) {
            seen.add("series(" + guesser + ", 0, 0) " + x.series(guesser, 0, 0));
            seen.add("series(" + guesser + ", 1, 4) " + x.series(guesser, 1, 4));
            seen.add("falls(" + guesser + ", 4, 0) " + x.falls(guesser, 4, 0));
        }
        seen.add("best(100) " + x.best(100));
        seen.add("exact(0, 1, 0) " + x.exact(0, 1, 0));
        seen.add("mixed(0, 0, 9) " + x.mixed(0, 0, 9));
    }

    // SIGNS of a SHEET are seen by guessing by it; where it ends, by a place outside
    private static void sheets(FiveCards x, List<String> seen) {
        for (int sheet = 0; sheet < 4; sheet++) {
            seen.add("guess(0, " + sheet + ", 0) " + x.guess(0, sheet, 0));
            seen.add("guesses by sheet " + sheet + " " + Arrays.toString(Check.row(x, 0, 1)));
            for (int end : new int[] {2, 4, 5, 39}) {
                seen.add("cell(" + sheet + ", " + end + ", 0) " + x.cell(sheet, end, 0));
            }
            seen.add("copy(" + sheet + ", 0, 0, 0, 0) " + x.copy(sheet, 0, 0, 0, 0));
        }
    }

    private static void tape(FiveCards x, List<String> seen) {
        if (x.count(5) < 100) {
            Check.feed(x, "ep 7;say 8;");
        }
        seen.add("text() " + x.text());
        seen.add("force(2) " + x.force(2));
        seen.add("told(0, 13) by text 2 " + x.told(0, 13));
        seen.add("screen(1, 1) " + x.screen(1, 1));
        seen.add("leak(0, 0, 0) " + x.leak(0, 0, 0));
    }
}
