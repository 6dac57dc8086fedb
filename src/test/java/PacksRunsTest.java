/** Promises 2 to 10: packs, runs. */
public final class PacksRunsTest {
    private static final int LEAST = Integer.MIN_VALUE;
    private static final int MOST = Integer.MAX_VALUE;

    public static void main(String[] args) {
        pack();
        packsAreFull();
        run();
        runsAreFull();
        at();
        guess();
        slip();
        cut();
        shuffle();
        toldOfARun();
        toldByLeft();
        toldBoundAndSure();
        toldSlips();
        toldByTheRule();
        exact();
        Check.end();
    }

    private static void pack() {
        FiveCards x = new FiveCards();
        for (int counts : new int[] {0, -1, LEAST, MOST, 100000, 111111, 99999, 99800, 55556, -55555}) {
            Check.due("pack(" + counts + ")", x.pack(counts), -2);
        }
        Check.due("count(0)", x.count(0), 0);
        Check.due("pack(99700)", x.pack(99700), 0);
        Check.due("pack(1)", x.pack(1), 1);
        Check.due("pack(12345)", x.pack(12345), 2);
        x.run(0, 0, 0);
        x.run(1, 0, 0);
        x.run(2, 0, 0);
        Check.rowIs(x, 0, 0, "0000000001111111112222222");
        Check.rowIs(x, 1, 0, "4");
        Check.rowIs(x, 2, 0, "011222333344444");
    }

    private static void packsAreFull() {
        FiveCards x = new FiveCards();
        for (int k = 0; k < 4; k++) {
            Check.due("pack(11)", x.pack(11), k);
        }
        Check.due("pack(0), none more has room", x.pack(0), -2);
        Check.due("pack(11), none more has room", x.pack(11), -4);
        Check.due("count(0)", x.count(0), 4);
    }

    private static void run() {
        FiveCards x = new FiveCards();
        Check.due("run(0, 0, 0), no pack", x.run(0, 0, 0), -2);
        x.pack(21);
        x.pack(10000);
        for (int bad : new int[] {-1, 100, 101, LEAST, MOST}) {
            Check.due("run(" + bad + ", 0, 0)", x.run(bad, 0, 0), -2);
            Check.due("run(0, " + bad + ", 0)", x.run(0, bad, 0), -2);
            Check.due("run(0, 0, " + bad + ")", x.run(0, 0, bad), -2);
        }
        Check.due("run(2, 0, 0)", x.run(2, 0, 0), -2);
        Check.due("run(0, 8, 0)", x.run(0, 8, 0), -2);
        Check.due("run(0, 7, 99)", x.run(0, 7, 99), 0);
        Check.due("run(1, 0, 0)", x.run(1, 0, 0), 1);
        Check.rowIs(x, 0, 0, "334");
        Check.rowIs(x, 0, 1, "000");
        Check.rowIs(x, 1, 0, "0");
        Check.due("told(0, 0)", x.told(0, 0), 0);
        Check.due("told(0, 1)", x.told(0, 1), 7);
        Check.due("told(0, 2)", x.told(0, 2), 99);
        Check.due("told(0, 3)", x.told(0, 3), 3);
        Check.due("told(1, 0)", x.told(1, 0), 1);
        Check.due("told(1, 1)", x.told(1, 1), 0);
        Check.due("told(1, 3)", x.told(1, 3), 1);
    }

    private static void runsAreFull() {
        FiveCards x = Check.with(11, 16);
        Check.due("run(0, 8, 0), none more has room", x.run(0, 8, 0), -2);
        Check.due("run(0, 0, 0), none more has room", x.run(0, 0, 0), -4);
        Check.due("count(1)", x.count(1), 16);
        Check.due("told(15, 2)", x.told(15, 2), 15);
        Check.due("told(16, 2)", x.told(16, 2), -1000000);
    }

    private static void at() {
        FiveCards x = Check.with(1010, 1);
        Check.guesses(x, 0, 3, 4);
        Check.due("at(0, 0, 0)", x.at(0, 0, 0), 1);
        Check.due("at(0, 1, 0)", x.at(0, 1, 0), 3);
        Check.due("at(0, 0, 1)", x.at(0, 0, 1), 3);
        Check.due("at(0, 1, 1)", x.at(0, 1, 1), 4);
        for (int bad : new int[] {-1, 2, LEAST, MOST}) {
            Check.due("at(" + bad + ", 0, 0)", x.at(bad, 0, 0), -2);
            Check.due("at(0, " + bad + ", 0)", x.at(0, bad, 0), -2);
            Check.due("at(0, 0, " + bad + ")", x.at(0, 0, bad), -2);
        }
        Check.due("at(1, 0, 0)", x.at(1, 0, 0), -2);
    }

    private static void guess() {
        FiveCards x = Check.with(22222, 1);
        for (int bad : new int[] {-1, LEAST, MOST}) {
            Check.due("guess(" + bad + ", 0, 0)", x.guess(bad, 0, 0), -2);
            Check.due("guess(0, " + bad + ", 0)", x.guess(0, bad, 0), -2);
            Check.due("guess(0, 0, " + bad + ")", x.guess(0, 0, bad), -2);
        }
        Check.due("guess(1, 0, 0)", x.guess(1, 0, 0), -2);
        Check.due("guess(0, 4, 0)", x.guess(0, 4, 0), -2);
        Check.due("guess(0, 0, 10)", x.guess(0, 0, 10), -2);
        Check.due("guess(0, 0, 9), the sheet is missing", x.guess(0, 0, 9), -11);
        x.sheet(0, 2, 0);
        Check.due("guess(0, 0, 0), the sheet has nothing", x.guess(0, 0, 0), 0);
        x.sheet(0, 2, 4);
        for (int i = 0; i < 4; i++) {
            x.cell(0, i, i + 1);
        }
        Check.due("guess(0, 0, 3)", x.guess(0, 0, 3), 4);
        Check.rowIs(x, 0, 1, "0001234000");
        Check.due("guess(0, 0, 8), the run ends", x.guess(0, 0, 8), 2);
        Check.rowIs(x, 0, 1, "0001234012");
        x.cell(0, 2, 5);
        Check.due("guess(0, 0, 0), no sign", x.guess(0, 0, 0), 2);
        Check.rowIs(x, 0, 1, "1201234012");
        x.cell(0, 0, -1);
        Check.due("guess(0, 0, 4), no sign at first", x.guess(0, 0, 4), 0);
        Check.rowIs(x, 0, 1, "1201234012");
        x.sheet(1, 1, 1);
        x.cell(1, 0, 4);
        Check.due("guess(0, 1, 9), of shorts", x.guess(0, 1, 9), 1);
        Check.rowIs(x, 0, 1, "1201234014");
        Check.due("told(0, 10), none is a slip", x.told(0, 10), 0);
    }

    private static void slip() {
        FiveCards x = Check.with(111, 1);
        Check.due("slip(0, 1, 4)", x.slip(0, 1, 4), 0);
        Check.due("slip(0, 1, 2)", x.slip(0, 1, 2), 4);
        Check.rowIs(x, 0, 1, "020");
        for (int bad : new int[] {-1, 5, LEAST, MOST}) {
            Check.due("slip(" + bad + ", 0, 0)", x.slip(bad, 0, 0), -2);
            Check.due("slip(0, " + bad + ", 0)", x.slip(0, bad, 0), -2);
            Check.due("slip(0, 0, " + bad + ")", x.slip(0, 0, bad), -2);
        }
        Check.due("slip(1, 0, 0)", x.slip(1, 0, 0), -2);
        Check.due("slip(0, 3, 0)", x.slip(0, 3, 0), -2);
        Check.rowIs(x, 0, 1, "020");
        Check.due("told(0, 10)", x.told(0, 10), 2);
    }

    private static void cut() {
        FiveCards x = Check.with(11111, 1);
        Check.guesses(x, 0, 4, 3);
        Check.due("cut(0, 2)", x.cut(0, 2), 1);
        Check.rowIs(x, 0, 0, "23401");
        Check.due("cut(0, 0)", x.cut(0, 0), 1);
        Check.due("cut(0, 5)", x.cut(0, 5), 1);
        Check.rowIs(x, 0, 0, "23401");
        Check.due("cut(0, 4)", x.cut(0, 4), 1);
        Check.rowIs(x, 0, 0, "12340");
        for (int bad : new int[] {-1, 6, LEAST, MOST}) {
            Check.due("cut(0, " + bad + ")", x.cut(0, bad), -2);
            Check.due("cut(" + bad + ", 0)", x.cut(bad, 0), -2);
        }
        Check.due("cut(1, 0)", x.cut(1, 0), -2);
        Check.rowIs(x, 0, 0, "12340");
        Check.rowIs(x, 0, 1, "43000");
    }

    private static void shuffle() {
        FiveCards x = Check.with(11111, 2);
        // 48271 by 5 leaves 1; 182605794 by 4 leaves 2; 1291394886 by 3 leaves 0; 1914720637 by 2 leaves 1
        Check.due("shuffle(0, 0)", x.shuffle(0, 0), 1);
        Check.rowIs(x, 0, 0, "34021");
        Check.guesses(x, 1, 3, 4, 0, 2);
        Check.due("shuffle(1, 0)", x.shuffle(1, 0), 4);
        Check.rowIs(x, 1, 1, "34020");
        Check.due("shuffle(1, 99999)", x.shuffle(1, 99999), x.told(1, 4));
        for (int bad : new int[] {-1, 100000, LEAST, MOST}) {
            Check.due("shuffle(0, " + bad + ")", x.shuffle(0, bad), -2);
            Check.due("shuffle(" + bad + ", 0)", x.shuffle(bad, 0), -2);
        }
        Check.due("shuffle(2, 0)", x.shuffle(2, 0), -2);
        Check.rowIs(x, 0, 0, "34021");
        FiveCards one = Check.with(10, 1);
        Check.due("shuffle(0, 5) of one card", one.shuffle(0, 5), 0);
        Check.rowIs(one, 0, 0, "3");
    }

    private static void toldOfARun() {
        FiveCards x = Check.with(32001, 1);
        Check.rowIs(x, 0, 0, "000114");
        Check.due("told(0, 4)", x.told(0, 4), 3);
        Check.due("told(0, 5)", x.told(0, 5), 2);
        Check.due("told(0, 7)", x.told(0, 7), 3);
        Check.guesses(x, 0, 1, 0, 1, 1, 4, 4);
        Check.due("told(0, 4)", x.told(0, 4), 3);
        Check.due("told(0, 5)", x.told(0, 5), 4);
        x.cut(0, 1);
        Check.rowIs(x, 0, 0, "001140");
        Check.due("told(0, 4)", x.told(0, 4), 4);
        Check.due("told(0, 5)", x.told(0, 5), 1);
        Check.due("told(0, 7)", x.told(0, 7), 2);
        for (int bad : new int[] {-1, 14, LEAST, MOST}) {
            Check.due("told(0, " + bad + ")", x.told(0, bad), -1000000);
            Check.due("told(" + bad + ", 0)", x.told(bad, 0), -1000000);
        }
        Check.due("told(1, 0)", x.told(1, 0), -1000000);
        Check.due("told(0, 0), no run", new FiveCards().told(0, 0), -1000000);
    }

    private static void toldByLeft() {
        FiveCards x = Check.with(20020, 1);
        // 0033: guessed are 0 (hit), 3, 3 (hit), 3 (hit)
        Check.due("told(0, 6) of 0033", x.told(0, 6), 3);
        x.cut(0, 3);
        // 3003: guessed are 0, 0 (hit), 0 (hit), 3 (hit)
        Check.due("told(0, 6) of 3003", x.told(0, 6), 3);
        x.cut(0, 3);
        // 3300: guessed are 0, 0, 0 (hit), 0 (hit)
        Check.due("told(0, 6) of 3300", x.told(0, 6), 2);
        Check.due("told(0, 4) stays", x.told(0, 4), 2);
    }

    private static void toldBoundAndSure() {
        FiveCards x = Check.with(91000, 1);
        Check.due("told(0, 8), no leaks", x.told(0, 8), 0);
        Check.due("told(0, 4)", x.told(0, 4), 9);
        Check.due("told(0, 9), 9 above 2", x.told(0, 9), 1);
        x.leak(0, 6, 0);
        Check.due("told(0, 8)", x.told(0, 8), 6);
        Check.due("told(0, 9), 9 above 8", x.told(0, 9), 1);
        x.leak(0, 1, 0);
        Check.due("told(0, 8)", x.told(0, 8), 7);
        Check.due("told(0, 9), 9 not above 9", x.told(0, 9), 0);
        x.shut(1, 1);
        Check.due("told(0, 8), one shut", x.told(0, 8), 6);
        x.leak(0, 9, 0);
        Check.due("told(0, 8), no more than cards", x.told(0, 8), 10);
        FiveCards y = Check.with(90000, 1);
        y.leak(0, 7, 0);
        Check.due("told(0, 9), a fifth of 9 is 1", y.told(0, 9), 1);
        y.leak(0, 1, 0);
        Check.due("told(0, 9), 9 not above 8 and 1", y.told(0, 9), 0);
    }

    private static void toldSlips() {
        FiveCards x = Check.with(11100, 2);
        Check.due("slip(0, 1, 1)", x.slip(0, 1, 1), 0);
        Check.due("told(0, 11), became a hit", x.told(0, 11), 1);
        Check.due("slip(0, 1, 1)", x.slip(0, 1, 1), 1);
        Check.due("told(0, 11), was a hit and is", x.told(0, 11), 1);
        Check.due("slip(0, 1, 3)", x.slip(0, 1, 3), 1);
        Check.due("told(0, 11), was a hit", x.told(0, 11), 0);
        Check.due("slip(0, 1, 4)", x.slip(0, 1, 4), 3);
        Check.due("slip(0, 0, 4)", x.slip(0, 0, 4), 0);
        Check.due("told(0, 11), one less", x.told(0, 11), -1);
        Check.due("told(0, 10)", x.told(0, 10), 5);
        x.cut(0, 1);
        x.shuffle(0, 3);
        Check.due("told(0, 11) by cards as they lay then", x.told(0, 11), -1);
        Check.due("told(1, 10), another run", x.told(1, 10), 0);
        Check.due("told(1, 11), another run", x.told(1, 11), 0);
    }

    private static void toldByTheRule() {
        FiveCards x = Check.with(45000, 1);
        Check.due("told(0, 12), 4 hits", x.told(0, 12), 0);
        Check.due("told(0, 13)", x.told(0, 13), -1);
        x.slip(0, 4, 1);
        Check.due("told(0, 12), 5 hits", x.told(0, 12), 1);
        Check.due("told(0, 13)", x.told(0, 13), 0);
        x.leak(1, 4, 0);
        Check.due("told(0, 13), leaks 8", x.told(0, 13), -8);
        x.force(Check.read(x, "stop 0;keep 7;say run+10*all+100*day;"));
        Check.due("told(0, 12), whether and no more", x.told(0, 12), 1);
        Check.due("run(0, 0, 2)", x.run(0, 0, 2), 1);
        Check.due("told(1, 13), run is 0 and all as hits in say", x.told(1, 13), 240);
    }

    private static void exact() {
        FiveCards x = Check.with(21000, 1);
        // 001, 010, 100 against 012
        Check.guesses(x, 0, 0, 1, 2);
        Check.due("exact(0, 0, 0)", x.exact(0, 0, 0), 1);
        Check.due("exact(0, 1, 0)", x.exact(0, 1, 0), 1);
        Check.due("exact(0, 2, 0)", x.exact(0, 2, 0), 1);
        Check.due("exact(0, 3, 0)", x.exact(0, 3, 0), 0);
        Check.due("exact(0, 25, 0)", x.exact(0, 25, 0), 0);
        Check.due("exact(0, 25, 1)", x.exact(0, 25, 1), 3);
        for (int bad : new int[] {-1, 26, LEAST, MOST}) {
            Check.due("exact(" + bad + ", 0, 0)", x.exact(bad, 0, 0), FiveCards.NO);
            Check.due("exact(0, " + bad + ", 0)", x.exact(0, bad, 0), FiveCards.NO);
            Check.due("exact(0, 0, " + bad + ")", x.exact(0, 0, bad), FiveCards.NO);
        }
        Check.due("exact(1, 0, 0)", x.exact(1, 0, 0), FiveCards.NO);
        Check.due("exact(0, 0, 2)", x.exact(0, 0, 2), FiveCards.NO);
        FiveCards whole = Check.with(55555, 1);
        long sum = 0;
        for (int hits = 0; hits <= 25; hits++) {
            sum += whole.exact(0, hits, 0);
        }
        Check.due("all of exact(0, .., 0) together, all guesses alike", sum, 623360743125120L);
        Check.due("exact(0, 5, 0), all guesses alike", whole.exact(0, 5, 0), 623360743125120L);
        Check.guesses(whole, 0, 0, 1, 2, 3, 4, 0, 1, 2, 3, 4, 0, 1, 2, 3, 4, 0, 1, 2, 3, 4, 0, 1, 2, 3, 4);
        // with each sign guessed five times one order alone has all 25, and none has all but one
        Check.due("exact(0, 25, 0)", whole.exact(0, 25, 0), 1);
        Check.due("exact(0, 24, 0)", whole.exact(0, 24, 0), 0);
        // two unlike places change their cards: 10 pairs of signs, 5 places of each
        Check.due("exact(0, 23, 0)", whole.exact(0, 23, 0), 250);
    }
}
