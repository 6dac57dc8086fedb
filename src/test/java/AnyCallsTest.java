import java.util.Random;
import java.util.function.ToLongFunction;

/**
 * Any calls with any arguments; the seeds are fixed. None throws. What one object refuses the other is not asked at
 * all, and still both answer alike from there on: so none that was refused has changed anything.
 */
public final class AnyCallsTest {
    private static final int[] EDGES = {
        0, 0, 0, 1, 1, 2, 3, 4, 5, 6, 8, 9, 10, 12, 15, 16, 24, 25, 26, 40, 41, 50, 63, 99, 100, 55555, 32001, 99999,
        100000, -1, -1, -2, Integer.MAX_VALUE, Integer.MAX_VALUE - 2, Integer.MIN_VALUE,
    };
    private static final String WORDS = "stop 1;keep 3<hits;say all-run;( not - or and next 12345 day leaks = * + ? ";
    // a little under 512, for words are some calls at once
    private static final int CALLS = 500;
    private static final int KINDS = 32;
    private static final int WORDS_KIND = 17;
    private static final int TEXT_KIND = 18;
    private static final int RUNS_KIND = 30;

    private final Random random;
    private final FiveCards asked = new FiveCards();
    private final FiveCards spared = new FiveCards();
    private String call;

    private AnyCallsTest(int seed) {
        random = new Random(seed);
    }

    public static void main(String[] args) {
        for (int seed = 0; seed < 600; seed++) {
            new AnyCallsTest(seed).calls("seed " + seed);
        }
        Check.end();
    }

    private void calls(String run) {
        int used = 0;
        while (used < CALLS) {
            int kind = random.nextInt(KINDS);
            // words are fed eight bytes a call, and how many bytes there are is asked once
            used += kind == WORDS_KIND ? 2 + WORDS.length() / 8 : 1;
            try {
                one(run + ", call " + used, kind);
            } catch (RuntimeException | Error thrown) {
                Check.holds(run + ", call " + used + ": " + call + " threw " + thrown, false);
            }
        }
    }

    private void one(String where, int kind) {
        ToLongFunction<FiveCards> next = anyCall(kind);
        long answer = next.applyAsLong(asked);
        if (!isRefusal(kind, answer)) {
            Check.due(where + ": " + call + ", nothing refused ahead of it,", next.applyAsLong(spared), answer);
        }
    }

    /** Some bytes may come ahead of one that is refused, a FAULT empties THE TAPE, RUNS may come ahead of -12. */
    private static boolean isRefusal(int kind, long answer) {
        return answer < -1 && kind != WORDS_KIND && kind != TEXT_KIND && kind != RUNS_KIND;
    }

    private int any() {
        return random.nextInt(3) == 0 ? random.nextInt(8) : EDGES[random.nextInt(EDGES.length)];
    }

    private int few(int end) {
        return random.nextInt(12) == 0 ? any() : random.nextInt(end);
    }

    private ToLongFunction<FiveCards> anyCall(int kind) {
        return kind < 16 ? oneOfTheFirst(kind) : oneOfTheLast(kind);
    }

    private void named(String name, int... arguments) {
        StringBuilder text = new StringBuilder(name).append('(');
        for (int k = 0; k < arguments.length; k++) {
            text.append(k > 0 ? ", " : "").append(arguments[k]);
        }
        call = text.append(')').toString();
    }

    private interface Two {
        long of(FiveCards x, int a, int b);
    }

    private interface Three {
        long of(FiveCards x, int a, int b, int c);
    }

    private ToLongFunction<FiveCards> two(String name, Two two, int a, int b) {
        named(name, a, b);
        return x -> two.of(x, a, b);
    }

    private ToLongFunction<FiveCards> three(String name, Three three, int a, int b, int c) {
        named(name, a, b, c);
        return x -> three.of(x, a, b, c);
    }

    private ToLongFunction<FiveCards> oneOfTheFirst(int kind) {
        switch (kind) {
            case 0: return two("pack", (x, a, b) -> x.pack(a), any(), 0);
            case 1: return three("run", FiveCards::run, few(4), few(8), few(100));
            case 2: return three("at", FiveCards::at, few(16), few(25), few(2));
            case 3: return three("guess", FiveCards::guess, few(16), few(4), few(10));
            case 4: return three("slip", FiveCards::slip, few(16), few(10), few(5));
            case 5: return two("cut", FiveCards::cut, few(16), few(12));
            case 6: return two("shuffle", FiveCards::shuffle, few(16), any());
            case 7: return two("told", FiveCards::told, few(16), few(14));
            case 8: return three("exact", FiveCards::exact, few(16), few(26), few(2));
            case 9: return three("leak", FiveCards::leak, few(6), few(26), few(5));
            case 10: return two("shut", FiveCards::shut, few(10), few(2));
            case 11: return two("gives", FiveCards::gives, few(10), few(16));
            case 12: return two("counts", (x, a, b) -> x.counts(a), few(10), 0);
            case 13: return two("screen", FiveCards::screen, few(51), few(64));
            case 14: return two("plan", FiveCards::plan, few(1024), few(2));
            default: return two("weighs", (x, a, b) -> x.weighs(a), few(64), 0);
        }
    }

    private ToLongFunction<FiveCards> oneOfTheLast(int kind) {
        switch (kind) {
            case 16: return feed(few(9), random.nextLong());
            case WORDS_KIND: return words();
            case TEXT_KIND: return two("text", (x, a, b) -> x.text(), 0, 0);
            case 19: return two("force", (x, a, b) -> x.force(a), few(6), 0);
            case 20: return three("series", FiveCards::series, few(8), few(2), few(6));
            case 21: return two("best", (x, a, b) -> x.best(a), few(101), 0);
            case 22: return three("falls", FiveCards::falls, few(8), few(101), few(2));
            case 23: return three("mixed", FiveCards::mixed, few(16), any(), few(51));
            case 24: return two("image", (x, a, b) -> x.image(), 0, 0);
            case 25: return two("back", (x, a, b) -> x.back(), 0, 0);
            case 26: return two("count", (x, a, b) -> x.count(a), any(), 0);
            case 27: return three("sheet", FiveCards::sheet, few(4), few(4) - 1, few(41));
            case 28: return three("cell", FiveCards::cell, few(4), few(40), any());
            case 29: return copy(few(4), few(12), few(4), few(12), few(12));
            case RUNS_KIND: return runs(few(4), few(3), few(12), few(13));
            default: return two("taken", FiveCards::taken, few(10), few(6));
        }
    }

    private ToLongFunction<FiveCards> feed(int n, long bytes) {
        named("feed", n, (int) bytes);
        return x -> x.feed(n, bytes);
    }

    private ToLongFunction<FiveCards> words() {
        int from = random.nextInt(WORDS.length());
        int end = Math.min(WORDS.length(), from + random.nextInt(40));
        boolean whole = random.nextBoolean();
        String fed = whole ? WORDS.substring(0, WORDS.indexOf("( not")) : WORDS.substring(from, end);
        call = "feed of " + fed;
        return x -> Check.feed(x, fed);
    }

    private ToLongFunction<FiveCards> copy(int sheet, int i, int other, int j, int n) {
        named("copy", sheet, i, other, j, n);
        return x -> x.copy(sheet, i, other, j, n);
    }

    private ToLongFunction<FiveCards> runs(int sheet, int sort, int from, int n) {
        named("runs", sheet, sort, from, n);
        return x -> x.runs(sheet, sort, from, n);
    }
}
