/** Promises 21 to 27: series. */
public final class SeriesTest {
    private static final int LEAST = Integer.MIN_VALUE;
    private static final int MOST = Integer.MAX_VALUE;

    public static void main(String[] args) {
        series();
        seriesStops();
        seriesKept();
        seriesInLowestTerms();
        seriesByPlace();
        best();
        falls();
        mixed();
        imageAndBack();
        imageKeepsNoMore();
        imageAgain();
        backCountsAllRuns();
        count();
        Check.end();
    }

    private static void seriesIs(FiveCards x, int guesser, int kept, long... due) {
        for (int what = 0; what < due.length; what++) {
            Check.due("series(" + guesser + ", " + kept + ", " + what + ")", x.series(guesser, kept, what), due[what]);
        }
    }

    private static void series() {
        FiveCards x = new FiveCards();
        seriesIs(x, 0, 0, 0, 0, 0, 1, 0, 1);
        seriesIs(x, 7, 1, 0, 0, 0, 1, 0, 1);
        for (int bad : new int[] {-1, 8, LEAST, MOST}) {
            Check.due("series(" + bad + ", 0, 0)", x.series(bad, 0, 0), FiveCards.NO);
            Check.due("series(0, " + bad + ", 0)", x.series(0, bad, 0), FiveCards.NO);
            Check.due("series(0, 0, " + bad + ")", x.series(0, 0, bad), FiveCards.NO);
        }
        Check.due("series(0, 2, 0)", x.series(0, 2, 0), FiveCards.NO);
        Check.due("series(0, 0, 6)", x.series(0, 0, 6), FiveCards.NO);
        x.pack(21000);
        x.run(0, 3, 0);
        x.run(0, 4, 0);
        Check.guesses(x, 0, 1, 1, 4);
        // one of three cards is a 1, guessed twice
        seriesIs(x, 3, 0, 1, 0, 2, 3, -2, 3);
        seriesIs(x, 4, 0, 1, 2, 2, 1, 0, 1);
    }

    private static void seriesStops() {
        FiveCards x = Check.with(81000, 1);
        Check.due("run(0, 1, 0)", x.run(0, 1, 0), 1);
        x.pack(90000);
        Check.due("run(1, 0, 0)", x.run(1, 0, 0), 2);
        Check.due("run(0, 0, 0)", x.run(0, 0, 0), 3);
        // 8 HITS do not stop it, 9 do; that one counts
        seriesIs(x, 0, 0, 2, 17, 17, 1, 0, 1);
        seriesIs(x, 0, 1, 3, 25);
        seriesIs(x, 1, 0, 1, 8);
    }

    private static void seriesKept() {
        FiveCards x = new FiveCards();
        x.pack(50000);
        x.pack(41000);
        x.run(1, 2, 0);
        x.run(0, 2, 0);
        x.run(1, 2, 0);
        x.run(0, 2, 0);
        x.force(Check.read(x, "stop run=0;keep 4<hits;say 0;"));
        seriesIs(x, 2, 0, 1, 4, 4, 1, 0, 1);
        seriesIs(x, 2, 1, 2, 10, 10, 1, 0, 1);
    }

    private static void seriesInLowestTerms() {
        FiveCards x = new FiveCards();
        x.pack(11000);
        x.pack(11100);
        x.pack(22000);
        x.run(0, 0, 0);
        x.run(1, 0, 0);
        x.run(2, 0, 0);
        Check.guesses(x, 0, 4, 1);
        Check.guesses(x, 1, 4, 2, 4);
        Check.guesses(x, 2, 4, 4, 4, 0);
        // halves, thirds and quarters: 1/2, 1/3 and 2/4 with 1, 0 and 0 HITS
        seriesIs(x, 0, 0, 3, 1, 4, 3, -1, 3);
        Check.guesses(x, 1, 4, 4, 4);
        seriesIs(x, 0, 0, 3, 1, 1, 1, 0, 1);
        Check.guesses(x, 2, 0, 4, 4, 4);
        seriesIs(x, 0, 0, 3, 2, 1, 1, 1, 1);
    }

    private static void seriesByPlace() {
        FiveCards x = Check.with(30000, 4);
        x.force(Check.read(x, "stop 8 < all; keep 2 < run or all = 3; say 0;"));
        seriesIs(x, 0, 0, 3, 9);
        seriesIs(x, 0, 1, 2, 6);
        Check.due("told(0, 12)", x.told(0, 12), 1);
        Check.due("told(1, 12)", x.told(1, 12), 0);
        Check.due("told(3, 12), its place is among all", x.told(3, 12), 1);
    }

    private static void best() {
        FiveCards x = new FiveCards();
        Check.due("best(100), no runs", x.best(100), -1);
        x.pack(33000);
        x.run(0, 5, 10);
        x.run(0, 5, 20);
        x.run(0, 2, 20);
        x.run(0, 6, 99);
        Check.guesses(x, 1, 4, 4, 4, 4, 4, 4);
        Check.guesses(x, 2, 0, 0, 4, 4, 4, 4);
        Check.guesses(x, 3, 0, 0, 0, 1, 1, 1);
        Check.due("best(10), days ahead of it alone", x.best(10), -1);
        Check.due("best(11)", x.best(11), 5);
        Check.due("best(20)", x.best(20), 5);
        Check.due("best(21), 3/2 and 2", x.best(21), 2);
        Check.due("best(99)", x.best(99), 2);
        Check.due("best(100)", x.best(100), 6);
        Check.guesses(x, 2, 0, 4);
        x.slip(1, 5, 1);
        Check.due("best(21), 4/2 and 1", x.best(21), 5);
        x.slip(2, 1, 0);
        Check.due("best(21), 4/2 and 2, the least", x.best(21), 2);
        x.slip(1, 4, 1);
        Check.due("best(21), 5/2 and 2", x.best(21), 5);
        for (int bad : new int[] {-1, 101, LEAST, MOST}) {
            Check.due("best(" + bad + ")", x.best(bad), -2);
        }
        FiveCards more = Check.with(53000, 1);
        more.run(0, 1, 0);
        more.run(0, 1, 1);
        Check.guesses(more, 1, 4, 0, 0, 0, 0, 4, 4, 4);
        Check.guesses(more, 2, 4, 0, 0, 0, 0, 4, 4, 4);
        Check.due("best(2), 5/1 and 8/2", more.best(2), 0);
        Check.guesses(more, 0, 4, 4);
        Check.due("best(2), 3/1 and 8/2", more.best(2), 1);
        Check.due("best(1), 3/1 and 4/1", more.best(1), 1);
        FiveCards none = Check.with(11, 1);
        Check.due("best(1), a mean of 0", none.best(1), 0);
        Check.due("best(0), no days ahead", none.best(0), -1);
    }

    private static void fallsIs(FiveCards x, int guesser, int day, long above, long below) {
        Check.due("falls(" + guesser + ", " + day + ", 0)", x.falls(guesser, day, 0), above);
        Check.due("falls(" + guesser + ", " + day + ", 1)", x.falls(guesser, day, 1), below);
    }

    private static void falls() {
        FiveCards x = Check.with(33000, 4);
        x.run(0, 1, 2);
        Check.guesses(x, 0, 0, 0, 0, 1, 1, 1);
        Check.guesses(x, 1, 4, 4, 4, 4, 4, 4);
        Check.guesses(x, 2, 0, 4, 4, 4, 4, 4);
        Check.guesses(x, 3, 4, 4, 4, 4, 4, 1);
        fallsIs(x, 0, 0, 0, 1);
        fallsIs(x, 0, 1, 16, 3);
        fallsIs(x, 0, 2, 2, 1);
        fallsIs(x, 0, 3, 4, 3);
        fallsIs(x, 0, 4, 0, 1);
        fallsIs(x, 0, 100, 0, 1);
        fallsIs(x, 1, 2, 0, 1);
        fallsIs(x, 1, 3, 0, 1);
        fallsIs(x, 7, 3, 0, 1);
        Check.guesses(x, 0, 4, 4, 4, 4, 4, 4);
        fallsIs(x, 0, 1, -2, 3);
        fallsIs(x, 0, 3, -2, 3);
        for (int bad : new int[] {-1, 101, LEAST, MOST}) {
            Check.due("falls(" + bad + ", 0, 0)", x.falls(bad, 0, 0), FiveCards.NO);
            Check.due("falls(0, " + bad + ", 0)", x.falls(0, bad, 0), FiveCards.NO);
            Check.due("falls(0, 0, " + bad + ")", x.falls(0, 0, bad), FiveCards.NO);
        }
        Check.due("falls(8, 0, 0)", x.falls(8, 0, 0), FiveCards.NO);
        Check.due("falls(0, 0, 2)", x.falls(0, 0, 2), FiveCards.NO);
    }

    private static void mixed() {
        FiveCards x = Check.with(11000, 1);
        Check.guesses(x, 0, 0, 4);
        // two cards: the first lot of SEED s is (s + 1) * 48271; it is even for odd s, and then they change
        Check.due("mixed(0, 0, 1)", x.mixed(0, 0, 1), 1);
        Check.due("mixed(0, 1, 1)", x.mixed(0, 1, 1), 0);
        Check.due("mixed(0, 0, 4)", x.mixed(0, 0, 4), 2);
        x.cut(0, 1);
        Check.due("mixed(0, 0, 4), no fewer than none", x.mixed(0, 0, 4), 4);
        Check.rowIs(x, 0, 0, "10");
        FiveCards y = Check.with(55555, 1);
        Check.guesses(y, 0, 0, 1, 2, 3, 4, 0, 1, 2, 3, 4, 0, 1, 2, 3, 4);
        for (int first : new int[] {0, 7, 99950, 99999}) {
            Check.due("mixed(0, " + first + ", 50)", y.mixed(0, first, 50), mixedByHand(y, first, 50));
        }
        Check.due("told(0, 4)", y.told(0, 4), y.count(7));
        for (int bad : new int[] {-1, 100000, LEAST, MOST}) {
            Check.due("mixed(" + bad + ", 0, 1)", y.mixed(bad, 0, 1), -2);
            Check.due("mixed(0, " + bad + ", 1)", y.mixed(0, bad, 1), -2);
            Check.due("mixed(0, 0, " + bad + ")", y.mixed(0, 0, bad), -2);
        }
        Check.due("mixed(1, 0, 1)", y.mixed(1, 0, 1), -2);
        Check.due("mixed(0, 0, 0)", y.mixed(0, 0, 0), -2);
        Check.due("mixed(0, 0, 51)", y.mixed(0, 0, 51), -2);
    }

    private static int mixedByHand(FiveCards x, int first, int n) {
        int[] lie = Check.row(x, 0, 0);
        int[] guesses = Check.row(x, 0, 1);
        int sum = 0;
        for (int seed = first; seed < first + n; seed++) {
            int[] cards = lie.clone();
            long lot = seed + 1;
            for (int place = cards.length - 1; place >= 1; place--) {
                lot = lot * 48271 % 2147483647;
                int other = (int) (lot % (place + 1));
                int card = cards[place];
                cards[place] = cards[other];
                cards[other] = card;
            }
            sum += alike(cards, guesses) >= alike(lie, guesses) ? 1 : 0;
        }
        return sum;
    }

    private static int alike(int[] cards, int[] guesses) {
        int hits = 0;
        for (int i = 0; i < cards.length; i++) {
            hits += cards[i] == guesses[i] ? 1 : 0;
        }
        return hits;
    }

    private static void imageAndBack() {
        FiveCards x = Check.with(11100, 2);
        Check.due("back(), no image", x.back(), -3);
        x.leak(0, 1, 0);
        x.leak(0, 2, 0);
        x.shut(0, 1);
        x.slip(0, 1, 1);
        x.cut(0, 1);
        x.force(Check.read(x, "stop 0;keep 0;say 1;"));
        Check.due("image()", x.image(), 2);
        x.force(0);
        x.shut(0, 0);
        x.shut(1, 1);
        x.slip(0, 0, 4);
        x.slip(1, 0, 4);
        x.shuffle(0, 3);
        x.cut(1, 2);
        Check.guesses(x, 1, 3, 3, 3);
        Check.due("back()", x.back(), 2);
        Check.rowIs(x, 0, 0, "120");
        Check.rowIs(x, 0, 1, "010");
        Check.rowIs(x, 1, 0, "012");
        Check.rowIs(x, 1, 1, "000");
        Check.due("told(0, 10)", x.told(0, 10), 1);
        Check.due("told(0, 11)", x.told(0, 11), 1);
        Check.due("told(1, 10)", x.told(1, 10), 0);
        Check.due("told(1, 11)", x.told(1, 11), 0);
        Check.due("count(6)", x.count(6), 1);
        Check.due("shut(0, 1)", x.shut(0, 1), 1);
        Check.due("shut(1, 0)", x.shut(1, 0), 0);
        x.slip(0, 0, 3);
        Check.due("back(), once more", x.back(), 2);
        Check.rowIs(x, 0, 1, "010");
    }

    private static void imageKeepsNoMore() {
        FiveCards x = new FiveCards();
        Check.due("image(), nothing there", x.image(), 0);
        x.pack(11100);
        x.run(0, 0, 0);
        x.leak(0, 1, 0);
        x.shut(0, 1);
        x.screen(1, 1);
        x.cut(0, 1);
        x.slip(0, 0, 1);
        x.sheet(0, 0, 1);
        Check.read(x, "stop 0;keep 0;say 1;");
        x.force(1);
        Check.feed(x, "sto");
        Check.due("back(), what came since stays", x.back(), 1);
        Check.due("count(0)", x.count(0), 1);
        Check.due("count(1)", x.count(1), 1);
        Check.due("count(2)", x.count(2), 1);
        Check.due("count(3)", x.count(3), 1);
        Check.due("count(4)", x.count(4), 2);
        Check.due("count(5)", x.count(5), 3);
        Check.due("count(6)", x.count(6), 0);
        Check.rowIs(x, 0, 0, "120");
        Check.rowIs(x, 0, 1, "100");
        Check.due("told(0, 10)", x.told(0, 10), 1);
        Check.due("shut(0, 1)", x.shut(0, 1), 1);
        Check.due("cell(0, 0, 1)", x.cell(0, 0, 1), 1);
    }

    private static void imageAgain() {
        FiveCards x = Check.with(11100, 1);
        Check.due("image()", x.image(), 1);
        x.run(0, 0, 0);
        x.cut(0, 1);
        x.cut(1, 2);
        Check.due("image(), in place of the first", x.image(), 2);
        x.run(0, 0, 0);
        x.cut(0, 1);
        x.cut(1, 1);
        x.cut(2, 1);
        Check.due("back()", x.back(), 3);
        Check.rowIs(x, 0, 0, "120");
        Check.rowIs(x, 1, 0, "201");
        Check.rowIs(x, 2, 0, "120");
    }

    private static void backCountsAllRuns() {
        FiveCards x = Check.with(11100, 2);
        x.image();
        Check.due("back(), none came since", x.back(), 2);
        x.run(0, 3, 7);
        x.run(0, 4, 8);
        Check.due("back(), two came since", x.back(), 4);
        Check.due("count(1)", x.count(1), 4);
        x.run(9, 0, 0);
        Check.due("back(), one was refused", x.back(), 4);
        for (int k = 4; k < 17; k++) {
            x.run(0, 0, 0);
        }
        Check.due("back(), no more have room", x.back(), 16);
        Check.due("image()", x.image(), 16);
    }

    private static void count() {
        FiveCards x = new FiveCards();
        long[] atFirst = {0, 0, 0, 0, 1, 0, 0, 0};
        for (int what = 0; what < atFirst.length; what++) {
            Check.due("count(" + what + ")", x.count(what), atFirst[what]);
        }
        for (int bad : new int[] {-1, 8, LEAST, MOST}) {
            Check.due("count(" + bad + ")", x.count(bad), -2);
        }
        x.pack(32000);
        x.pack(1);
        x.run(0, 0, 0);
        x.run(0, 1, 0);
        x.run(1, 1, 0);
        for (int k = 0; k < 4; k++) {
            x.leak(0, 0, 0);
        }
        for (int k = 0; k < 5; k++) {
            x.screen(1, 0);
        }
        Check.read(x, "stop 0;keep 0;say 1;");
        x.force(1);
        x.feed(8, 0);
        long[] then = {2, 3, 4, 5, 2, 8, 1, 6};
        for (int what = 0; what < then.length; what++) {
            Check.due("count(" + what + ")", x.count(what), then[what]);
        }
    }
}
