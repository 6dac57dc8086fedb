/** What all tests use: answers that are due, and the calls that lead up to them. */
final class Check {
    private static int wrong = 0;

    private Check() {
    }

    static void due(String call, long got, long want) {
        if (got != want) {
            wrong++;
            System.out.println(call + " answered " + got + ", due is " + want);
        }
    }

    static void holds(String what, boolean is) {
        if (!is) {
            wrong++;
            System.out.println("does not hold: " + what);
        }
    }

    static void end() {
        if (wrong > 0) {
            System.out.println(wrong + " answers are not as due");
            System.exit(1);
        }
    }

    /** A new object with one PACK and so many RUNS of it, all of GUESSER 0, on DAYS 0, 1 and on. */
    static FiveCards with(int pack, int runs) {
        FiveCards x = new FiveCards();
        due("pack(" + pack + ")", x.pack(pack), 0);
        for (int k = 0; k < runs; k++) {
            due("run(0, 0, " + k + ")", x.run(0, 0, k), k);
        }
        return x;
    }

    /** Writes GUESSES over the first ones of a RUN by SHEET 3, so that none counts as a SLIP. */
    static void guesses(FiveCards x, int run, int... signs) {
        due("sheet(3, 0, n)", x.sheet(3, 0, signs.length), 1);
        for (int i = 0; i < signs.length; i++) {
            due("cell(3, i, v)", x.cell(3, i, signs[i]), 1);
        }
        due("guess(" + run + ", 3, 0)", x.guess(run, 3, 0), signs.length);
    }

    /** The CARDS (what 0) or GUESSES (what 1) of a RUN as digits. */
    static void rowIs(FiveCards x, int run, int what, String digits) {
        StringBuilder row = new StringBuilder();
        for (int i = 0; i < x.told(run, 3); i++) {
            row.append(x.at(run, i, what));
        }
        holds("row " + what + " of run " + run + " is " + digits + " but " + row, row.toString().equals(digits));
    }

    static int feed(FiveCards x, String bytes) {
        int size = x.count(5);
        for (int i = 0; i < bytes.length(); i++) {
            size = x.feed(1, bytes.charAt(i));
        }
        return size;
    }

    static int read(FiveCards x, String text) {
        feed(x, text);
        return x.text();
    }

    /** What an E comes to in say, of a RUN. */
    static int said(FiveCards x, int run, String e) {
        due("text() of " + e, x.force(read(x, "stop 0;keep 0;say " + e + ";")), 0);
        return x.told(run, 13);
    }
}
