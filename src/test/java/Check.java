import java.util.function.IntToLongFunction;

/** What all tests use: answers that are due, and the calls that lead up to them. */
final class Check {
    private static final int LEAST = Integer.MIN_VALUE;
    private static final int MOST = Integer.MAX_VALUE;

    private static int wrong = 0;

    private Check() {
    }

    static void due(String call, long got, long want) {
        if (got != want) {
            wrong++;
            System.out.println(call + " answered " + got + ", due is " + want);
        }
    }

    static void holds(String what, boolean is) {
        if (!is) {
            wrong++;
            System.out.println("does not hold: " + what);
        }
    }

    /** The least and the most are taken; what lies next to them outside, and far outside, is refused. */
    static void range(String call, IntToLongFunction asked, int least, int most, long refusal) {
        for (int bad : new int[] {least - 1, most + 1, LEAST, LEAST + 1, MOST - 1, MOST}) {
            due(call + " with " + bad, asked.applyAsLong(bad), refusal);
        }
        holds(call + " with " + least + " is taken", asked.applyAsLong(least) != refusal);
        holds(call + " with " + most + " is taken", asked.applyAsLong(most) != refusal);
    }

    static void end() {
        if (wrong > 0) {
            System.out.println(wrong + " answers are not as due");
            System.exit(1);
        }
    }

    /** A new object with one PACK and so many RUNS of it, all of GUESSER 0, on DAYS 0, 1 and on. */
    static FiveCards with(int pack, int runs) {
        FiveCards x = new FiveCards();
        due("pack(" + pack + ")", x.pack(pack), 0);
        for (int k = 0; k < runs; k++) {
            due("run(0, 0, " + k + ")", x.run(0, 0, k), k);
        }
        return x;
    }

    /** Writes GUESSES over the first ones of a RUN by SHEET 3, so that none counts as a SLIP. */
    static void guesses(FiveCards x, int run, int... signs) {
        due("sheet(3, 0, n)", x.sheet(3, 0, signs.length), 1);
        for (int i = 0; i < signs.length; i++) {
            due("cell(3, i, v)", x.cell(3, i, signs[i]), 1);
        }
        due("guess(" + run + ", 3, 0)", x.guess(run, 3, 0), signs.length);
    }

    /** The CARDS (what 0) or GUESSES (what 1) of a RUN. */
    static int[] row(FiveCards x, int run, int what) {
        int[] row = new int[x.told(run, 3)];
        for (int i = 0; i < row.length; i++) {
            row[i] = x.at(run, i, what);
        }
        return row;
    }

    /** The CARDS (what 0) or GUESSES (what 1) of a RUN as digits. */
    static void rowIs(FiveCards x, int run, int what, String digits) {
        StringBuilder row = new StringBuilder();
        for (int sign : row(x, run, what)) {
            row.append(sign);
        }
        holds("row " + what + " of run " + run + " is " + digits + " but " + row, row.toString().equals(digits));
    }

    /** Eight bytes a call, so that an object is not used up by its texts. */
    static int feed(FiveCards x, String bytes) {
        int size = x.count(5);
        for (int from = 0; from < bytes.length(); from += 8) {
            int n = Math.min(8, bytes.length() - from);
            long word = 0;
            for (int k = n - 1; k >= 0; k--) {
                word = word << 8 | bytes.charAt(from + k);
            }
            size = x.feed(n, word);
        }
        return size;
    }

    static int read(FiveCards x, String text) {
        feed(x, text);
        return x.text();
    }

    /** What an E comes to in say, of a RUN. */
    static int said(FiveCards x, int run, String e) {
        due("text() of " + e, x.force(read(x, "stop 0;keep 0;say " + e + ";")), 0);
        return x.told(run, 13);
    }
}
