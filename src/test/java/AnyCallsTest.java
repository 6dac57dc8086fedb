import java.util.Random;

/** Any calls with any arguments: none throws, and none that is refused changes anything; the seeds are fixed. */
public final class AnyCallsTest {
    private static final int[] EDGES = {
        0, 0, 0, 1, 1, 2, 3, 4, 5, 6, 8, 9, 10, 12, 15, 16, 24, 25, 26, 40, 41, 50, 63, 99, 100, 55555, 32001, 99999,
        100000, -1, -1, -2, Integer.MAX_VALUE, Integer.MAX_VALUE - 2, Integer.MIN_VALUE,
    };
    private static final String WORDS = "stop 1;keep 3<hits;say all-run;( not - or and next 12345 day leaks = * + ? ";
    private static final int CALLS = 32;

    private final Random random;
    private final FiveCards x = new FiveCards();

    private AnyCallsTest(int seed) {
        random = new Random(seed);
    }

    public static void main(String[] args) {
        for (int seed = 0; seed < 300; seed++) {
            new AnyCallsTest(seed).calls(seed);
        }
        Check.end();
    }

    private void calls(int seed) {
        boolean watches = seed % 3 == 0;
        for (int k = 0; k < 512; k++) {
            int which = random.nextInt(CALLS);
            long before = watches ? state() : 0;
            try {
                long answer = call(which);
                if (watches && isRefusal(which, answer)) {
                    Check.holds("seed " + seed + ", call " + k + ": call " + which + " answered " + answer
                        + " and changed nothing", before == state());
                }
            } catch (RuntimeException | Error thrown) {
                Check.holds("seed " + seed + ", call " + k + ": call " + which + " threw " + thrown, false);
            }
        }
    }

    /** Many bytes may come ahead of one that is refused, a FAULT empties THE TAPE, RUNS may come ahead of -12. */
    private static boolean isRefusal(int which, long answer) {
        return answer < -1 && which != 17 && which != 18 && which != 30;
    }

    private int any() {
        return random.nextInt(3) == 0 ? random.nextInt(8) : EDGES[random.nextInt(EDGES.length)];
    }

    private int few(int end) {
        return random.nextInt(12) == 0 ? any() : random.nextInt(end);
    }

    private long call(int which) {
        switch (which) {
            case 0: return x.pack(any());
            case 1: return x.run(few(4), few(8), few(100));
            case 2: return x.at(few(16), few(25), few(2));
            case 3: return x.guess(few(16), few(4), few(10));
            case 4: return x.slip(few(16), few(10), few(5));
            case 5: return x.cut(few(16), few(12));
            case 6: return x.shuffle(few(16), any());
            case 7: return x.told(few(16), few(14));
            case 8: return x.exact(few(16), few(26), few(2));
            case 9: return x.leak(few(6), few(26), few(5));
            case 10: return x.shut(few(10), few(2));
            case 11: return x.gives(few(10), few(16));
            case 12: return x.counts(few(10));
            case 13: return x.screen(few(51), few(64));
            case 14: return x.plan(few(1024), few(2));
            case 15: return x.weighs(few(64));
            case 16: return x.feed(few(9), random.nextLong());
            case 17: return feedWords();
            case 18: return x.text();
            case 19: return x.force(few(6));
            case 20: return x.series(few(8), few(2), few(6));
            case 21: return x.best(few(101));
            case 22: return x.falls(few(8), few(101), few(2));
            case 23: return x.mixed(few(16), any(), few(51));
            case 24: return x.image();
            case 25: return x.back();
            case 26: return x.count(any());
            case 27: return x.sheet(few(4), few(4) - 1, few(41));
            case 28: return x.cell(few(4), few(40), any());
            case 29: return x.copy(few(4), few(12), few(4), few(12), few(12));
            case 30: return x.runs(few(4), few(3), few(12), few(13));
            default: return x.taken(few(10), few(6));
        }
    }

    private int feedWords() {
        int from = random.nextInt(WORDS.length());
        int end = Math.min(WORDS.length(), from + random.nextInt(40));
        if (random.nextBoolean()) {
            from = 0;
            end = WORDS.indexOf("( not");
        }
        return Check.feed(x, WORDS.substring(from, end));
    }

    /** All that can be asked for without a change, in one number. */
    private long state() {
        long sum = 7;
        for (int what = 0; what < 8; what++) {
            sum = sum * 31 + x.count(what);
        }
        for (int run = 0; run < x.count(1); run++) {
            for (int what = 0; what < 14; what++) {
                sum = sum * 31 + x.told(run, what);
            }
            for (int i = 0; i < x.told(run, 3); i++) {
                sum = sum * 31 + x.at(run, i, 0) * 5 + x.at(run, i, 1);
            }
        }
        for (int leak = 0; leak < x.count(2); leak++) {
            sum = sum * 31 + x.counts(leak) + 31 * x.taken(leak, 0);
            sum = x.count(1) > 0 ? sum * 31 + x.gives(leak, 0) : sum;
        }
        for (int set = 0; set < 1 << x.count(3); set++) {
            sum = sum * 31 + x.weighs(set);
        }
        for (int guesser = 0; guesser < 8; guesser++) {
            for (int what = 0; what < 6; what++) {
                sum = sum * 31 + x.series(guesser, 0, what) + 7 * x.series(guesser, 1, what);
            }
        }
        return sum;
    }
}
