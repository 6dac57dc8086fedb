/** Promises 1 to 8 at their edges: each sentence that names one has a test; the sentence stands ahead of it. */
public final class EdgesPacksRunsTest {
    public static void main(String[] args) {
        noPacksAtFirst();
        fiveHundredAndTwelveCalls();
        packDigits();
        packTogether();
        packCountsHaveFiveDigits();
        packsAreFourAtMost();
        packRefusals();
        runOfAPack();
        runGuesser();
        runDay();
        runsAreSixteenAtMost();
        runRefusals();
        cardsAtFirst();
        atPlaces();
        atWhat();
        guessEndsAtNoSign();
        guessEndsWithTheSheet();
        guessEndsWithTheRun();
        guessRefusals();
        slipSigns();
        slipRefusals();
        cutPlaces();
        cutRefusals();
        shuffleSeeds();
        shuffleLotsAreLong();
        shuffleOfFewCards();
        shuffleRefusals();
        Check.end();
    }

    // "No PACKS."
    private static void noPacksAtFirst() {
        FiveCards x = new FiveCards();
        Check.due("count(0)", x.count(0), 0);
        Check.due("run(0, 0, 0), there is no pack", x.run(0, 0, 0), -2);
        Check.due("pack(1), numbered from 0", x.pack(1), 0);
    }

    // "An object is used for at most 512 calls": the last of them is answered like the first
    private static void fiveHundredAndTwelveCalls() {
        FiveCards x = new FiveCards();
        x.pack(55555);
        x.run(0, 0, 0);
        for (int k = 0; k < 509; k++) {
            int was = k < 25 ? 0 : (k / 25 - 1) % 5;
            Check.due("slip " + k, x.slip(0, k % 25, k / 25 % 5), was);
        }
        Check.due("told(0, 10), the 512th call", x.told(0, 10), 509);
    }

    // "how many cards of each SIGN (0 .. 9 each"; "SIGN 0's the highest"
    private static void packDigits() {
        int[] nines = {90000, 9000, 900, 90, 9};
        for (int sign = 0; sign < 5; sign++) {
            FiveCards x = Check.with(nines[sign], 1);
            Check.due("told(0, 3) of " + nines[sign], x.told(0, 3), 9);
            Check.due("at(0, 0, 0) of " + nines[sign], x.at(0, 0, 0), sign);
            Check.due("at(0, 8, 0) of " + nines[sign], x.at(0, 8, 0), sign);
        }
        FiveCards x = Check.with(10901, 1);
        Check.rowIs(x, 0, 0, "02222222224");
    }

    // "1 .. 25 together"
    private static void packTogether() {
        for (int one : new int[] {10000, 1000, 100, 10, 1}) {
            FiveCards x = Check.with(one, 1);
            Check.due("told(0, 3) of " + one, x.told(0, 3), 1);
        }
        Check.due("pack(0), none together", new FiveCards().pack(0), -2);
        for (int whole : new int[] {55555, 99700, 799, 90907, 19960}) {
            FiveCards x = Check.with(whole, 1);
            Check.due("told(0, 3) of " + whole, x.told(0, 3), 25);
        }
        for (int many : new int[] {55556, 65555, 99800, 899, 91907, 19961, 99999}) {
            Check.due("pack(" + many + "), too many together", new FiveCards().pack(many), -2);
        }
    }

    // "counts: digits": five of them, for there are five SIGNS
    private static void packCountsHaveFiveDigits() {
        Check.due("pack(99700)", new FiveCards().pack(99700), 0);
        for (int bad : new int[] {100000, 100001, 110000, 1000000, -1, -10000, -55555, Integer.MIN_VALUE,
            Integer.MIN_VALUE + 1, Integer.MAX_VALUE}) {
            Check.due("pack(" + bad + ")", new FiveCards().pack(bad), -2);
        }
    }

    // "PACKS (4 at most, numbered from 0)"
    private static void packsAreFourAtMost() {
        FiveCards x = new FiveCards();
        for (int k = 0; k < 4; k++) {
            Check.due("count(0)", x.count(0), k);
            Check.due("pack(" + (k + 1) + ")", x.pack(k + 1), k);
        }
        Check.due("pack(5), the fifth", x.pack(5), -4);
        Check.due("count(0)", x.count(0), 4);
        for (int k = 0; k < 4; k++) {
            x.run(k, 0, 0);
            Check.due("told(" + k + ", 3)", x.told(k, 3), k + 1);
        }
    }

    // "BAD; FULL."
    private static void packRefusals() {
        Twins twins = Twins.full();
        Check.due("pack(0), full, too", twins.asked.pack(0), -2);
        Check.due("pack(55556), full, too", twins.asked.pack(55556), -2);
        Check.due("pack(100000), full, too", twins.asked.pack(100000), -2);
        Check.due("pack(-1), full, too", twins.asked.pack(-1), -2);
        Check.due("pack(1), full", twins.asked.pack(1), -4);
        twins.areAlike("pack, full");
        twins = Twins.usual();
        Check.due("pack(0)", twins.asked.pack(0), -2);
        Check.due("pack(99999)", twins.asked.pack(99999), -2);
        Check.due("pack(-1)", twins.asked.pack(-1), -2);
        twins.areAlike("pack");
    }

    // "RUNS ..: of a PACK"
    private static void runOfAPack() {
        FiveCards x = new FiveCards();
        for (int packs = 0; packs < 4; packs++) {
            Check.due("run(" + packs + ", 0, 0), no such pack", x.run(packs, 0, 0), -2);
            x.pack(packs + 1);
            Check.due("run(" + packs + ", 0, 0)", x.run(packs, 0, 0), packs);
            Check.due("told(" + packs + ", 0)", x.told(packs, 0), packs);
            Check.due("told(" + packs + ", 3)", x.told(packs, 3), packs + 1);
        }
        Check.range("run(?, 0, 0)", pack -> x.run(pack, 0, 0), 0, 3, -2);
    }

    // "a GUESSER (0 .. 7)"
    private static void runGuesser() {
        FiveCards x = Check.with(1, 0);
        Check.range("run(0, ?, 0)", guesser -> x.run(0, guesser, 0), 0, 7, -2);
        Check.due("told(0, 1)", x.told(0, 1), 0);
        Check.due("told(1, 1)", x.told(1, 1), 7);
    }

    // "a DAY (0 .. 99)"
    private static void runDay() {
        FiveCards x = Check.with(1, 0);
        Check.range("run(0, 0, ?)", day -> x.run(0, 0, day), 0, 99, -2);
        Check.due("told(0, 2)", x.told(0, 2), 0);
        Check.due("told(1, 2)", x.told(1, 2), 99);
    }

    // "RUNS (16 at most, numbered from 0)"
    private static void runsAreSixteenAtMost() {
        FiveCards x = Check.with(1, 0);
        for (int k = 0; k < 16; k++) {
            Check.due("told(" + k + ", 2), no such run yet", x.told(k, 2), -1000000);
            Check.due("run(0, 0, " + (k + 50) + ")", x.run(0, 0, k + 50), k);
            Check.due("told(" + k + ", 2)", x.told(k, 2), k + 50);
        }
        Check.due("run(0, 0, 0), the seventeenth", x.run(0, 0, 0), -4);
        Check.due("count(1)", x.count(1), 16);
        Check.due("told(16, 2)", x.told(16, 2), -1000000);
        Check.due("told(15, 2)", x.told(15, 2), 65);
    }

    // "BAD; FULL."
    private static void runRefusals() {
        Twins twins = Twins.full();
        Check.due("run(4, 0, 0), full, too", twins.asked.run(4, 0, 0), -2);
        Check.due("run(0, 8, 0), full, too", twins.asked.run(0, 8, 0), -2);
        Check.due("run(0, 0, 100), full, too", twins.asked.run(0, 0, 100), -2);
        Check.due("run(3, 7, 99), full", twins.asked.run(3, 7, 99), -4);
        twins.areAlike("run, full");
        twins = Twins.usual();
        Check.due("run(2, 0, 0)", twins.asked.run(2, 0, 0), -2);
        Check.due("run(0, -1, 0)", twins.asked.run(0, -1, 0), -2);
        Check.due("run(0, 0, -1)", twins.asked.run(0, 0, -1), -2);
        twins.areAlike("run");
    }

    // "At first the CARDS lie by SIGNS (all 0s first), all GUESSES are 0."
    private static void cardsAtFirst() {
        FiveCards x = Check.with(20301, 1);
        Check.rowIs(x, 0, 0, "002224");
        Check.rowIs(x, 0, 1, "000000");
        FiveCards last = Check.with(3, 1);
        Check.rowIs(last, 0, 0, "444");
        Check.rowIs(last, 0, 1, "000");
        Check.due("told(0, 4), no 0 among the cards", last.told(0, 4), 0);
    }

    // "at place i of a RUN. BAD."
    private static void atPlaces() {
        FiveCards x = Check.with(11111, 1);
        x.pack(1);
        x.run(1, 0, 0);
        Check.range("at(0, ?, 0)", i -> x.at(0, i, 0), 0, 4, -2);
        Check.range("at(0, ?, 1)", i -> x.at(0, i, 1), 0, 4, -2);
        Check.range("at(1, ?, 0), one card", i -> x.at(1, i, 0), 0, 0, -2);
        Check.range("at(?, 0, 0)", run -> x.at(run, 0, 0), 0, 1, -2);
        Check.due("at(0, 4, 0)", x.at(0, 4, 0), 4);
        Check.due("at(0, 0, 0), no run", new FiveCards().at(0, 0, 0), -2);
        FiveCards whole = Check.with(55555, 1);
        Check.range("at(0, ?, 0) of 25", i -> whole.at(0, i, 0), 0, 24, -2);
    }

    // "A CARD (what 0), a GUESS (1)"
    private static void atWhat() {
        FiveCards x = Check.with(1, 1);
        Check.due("at(0, 0, 0)", x.at(0, 0, 0), 4);
        Check.due("at(0, 0, 1)", x.at(0, 0, 1), 0);
        Check.range("at(0, 0, ?)", what -> x.at(0, 0, what), 0, 1, -2);
        Twins twins = Twins.usual();
        Check.due("at(0, 0, 2)", twins.asked.at(0, 0, 2), -2);
        Check.due("at(4, 0, 0)", twins.asked.at(4, 0, 0), -2);
        Check.due("at(0, 6, 0)", twins.asked.at(0, 6, 0), -2);
        twins.areAlike("at");
    }

    private static FiveCards withRow(int pack, int sort, int... items) {
        FiveCards x = Check.with(pack, 1);
        x.sheet(0, sort, items.length);
        for (int i = 0; i < items.length; i++) {
            x.cell(0, i, items[i]);
        }
        return x;
    }

    // "it ends where one is no SIGN"
    private static void guessEndsAtNoSign() {
        for (int sort = 0; sort < 3; sort++) {
            for (int bad : new int[] {-1, 5, 100, -128}) {
                FiveCards first = withRow(55, sort, bad, 1, 2);
                Check.due("guess(0, 0, 0), the first is " + bad, first.guess(0, 0, 0), 0);
                Check.rowIs(first, 0, 1, "0000000000");
                FiveCards x = withRow(55, sort, 4, 3, bad, 1, 2);
                Check.due("guess(0, 0, 1), the third is " + bad, x.guess(0, 0, 1), 2);
                Check.rowIs(x, 0, 1, "0430000000");
            }
        }
        FiveCards ints = withRow(55, 2, 4, 256, 1);
        Check.due("guess(0, 0, 0), the second is 256", ints.guess(0, 0, 0), 1);
        FiveCards far = withRow(55, 2, 0, 4, Integer.MIN_VALUE);
        Check.due("guess(0, 0, 0), the third is far below", far.guess(0, 0, 0), 2);
        far.cell(0, 0, Integer.MAX_VALUE);
        Check.due("guess(0, 0, 0), the first is far above", far.guess(0, 0, 0), 0);
    }

    // ".. or the SHEET .. ends"
    private static void guessEndsWithTheSheet() {
        FiveCards none = withRow(111, 0);
        Check.due("guess(0, 0, 0), a sheet of none", none.guess(0, 0, 0), 0);
        Check.rowIs(none, 0, 1, "000");
        FiveCards one = withRow(111, 0, 4);
        Check.due("guess(0, 0, 1), a sheet of one", one.guess(0, 0, 1), 1);
        Check.rowIs(one, 0, 1, "040");
        FiveCards shorter = withRow(111, 1, 3, 2);
        Check.due("guess(0, 0, 1), both end at once", shorter.guess(0, 0, 1), 2);
        Check.rowIs(shorter, 0, 1, "032");
    }

    // ".. or the RUN ends"
    private static void guessEndsWithTheRun() {
        FiveCards x = withRow(111, 2, 1, 2, 3, 4);
        Check.due("guess(0, 0, 0), one too many", x.guess(0, 0, 0), 3);
        Check.rowIs(x, 0, 1, "123");
        Check.due("guess(0, 0, 2), the last place", x.guess(0, 0, 2), 1);
        Check.rowIs(x, 0, 1, "121");
        FiveCards longest = Check.with(55555, 1);
        longest.sheet(0, 0, 40);
        Check.due("guess(0, 0, 0) by a sheet of 40", longest.guess(0, 0, 0), 25);
        Check.due("guess(0, 0, 24) by a sheet of 40", longest.guess(0, 0, 24), 1);
    }

    // "BAD: RUN, SHEET, i; -11."
    private static void guessRefusals() {
        Twins twins = Twins.usual();
        FiveCards x = twins.asked;
        Check.due("guess(4, 3, 0), missing, too", x.guess(4, 3, 0), -2);
        Check.due("guess(-1, 0, 0)", x.guess(-1, 0, 0), -2);
        Check.due("guess(0, 4, 0)", x.guess(0, 4, 0), -2);
        Check.due("guess(0, -1, 0)", x.guess(0, -1, 0), -2);
        Check.due("guess(0, 3, 6), missing, too", x.guess(0, 3, 6), -2);
        Check.due("guess(0, 3, -1), missing, too", x.guess(0, 3, -1), -2);
        Check.due("guess(0, 0, 6)", x.guess(0, 0, 6), -2);
        Check.due("guess(1, 0, 3)", x.guess(1, 0, 3), -2);
        Check.due("guess(0, 3, 5), missing", x.guess(0, 3, 5), -11);
        Check.due("guess(0, 3, 0), missing", x.guess(0, 3, 0), -11);
        twins.areAlike("guess");
        FiveCards y = withRow(11111, 0, 1);
        Check.range("guess(0, 0, ?)", i -> y.guess(0, 0, i), 0, 4, -2);
        Check.range("guess(?, 0, 0)", run -> y.guess(run, 0, 0), 0, 0, -2);
        Check.range("guess(0, ?, 0)", sheet -> y.guess(0, sheet, 0), 0, 3, -2);
    }

    // "SIGNS 0 .. 4"
    private static void slipSigns() {
        FiveCards x = Check.with(10001, 1);
        Check.range("slip(0, 0, ?)", sign -> x.slip(0, 0, sign), 0, 4, -2);
        Check.due("slip(0, 0, 1), it was the last one taken", x.slip(0, 0, 1), 4);
        Check.range("slip(0, ?, 0)", i -> x.slip(0, i, 0), 0, 1, -2);
        Check.range("slip(?, 0, 0)", run -> x.slip(run, 0, 0), 0, 0, -2);
        Check.due("told(0, 10), those refused are not counted", x.told(0, 10), 7);
    }

    // "BAD."
    private static void slipRefusals() {
        Twins twins = Twins.usual();
        Check.due("slip(4, 0, 1)", twins.asked.slip(4, 0, 1), -2);
        Check.due("slip(0, 6, 1)", twins.asked.slip(0, 6, 1), -2);
        Check.due("slip(0, -1, 1)", twins.asked.slip(0, -1, 1), -2);
        Check.due("slip(0, 0, 5)", twins.asked.slip(0, 0, 5), -2);
        Check.due("slip(0, 0, -1)", twins.asked.slip(0, 0, -1), -2);
        twins.areAlike("slip");
        Check.due("slip(0, 0, 0), no run", new FiveCards().slip(0, 0, 0), -2);
    }

    // "those from k on come first, then those ahead of k"; "k (0 .. CARDS)"
    private static void cutPlaces() {
        String[] due = {"01234", "12340", "23401", "34012", "40123", "01234"};
        for (int k = 0; k <= 5; k++) {
            FiveCards x = Check.with(11111, 1);
            Check.due("cut(0, " + k + ")", x.cut(0, k), 1);
            Check.rowIs(x, 0, 0, due[k]);
            Check.rowIs(x, 0, 1, "00000");
        }
        FiveCards one = Check.with(10, 1);
        Check.range("cut(0, ?) of one card", k -> one.cut(0, k), 0, 1, -2);
        Check.rowIs(one, 0, 0, "3");
        FiveCards whole = Check.with(55555, 1);
        Check.range("cut(0, ?) of 25", k -> whole.cut(0, k), 0, 25, -2);
    }

    // "BAD: RUN, k (0 .. CARDS)."
    private static void cutRefusals() {
        Twins twins = Twins.usual();
        Check.due("cut(0, 7)", twins.asked.cut(0, 7), -2);
        Check.due("cut(1, 4)", twins.asked.cut(1, 4), -2);
        Check.due("cut(0, -1)", twins.asked.cut(0, -1), -2);
        Check.due("cut(4, 1)", twins.asked.cut(4, 1), -2);
        Check.due("cut(-1, 1)", twins.asked.cut(-1, 1), -2);
        twins.areAlike("cut");
        FiveCards x = Check.with(11111, 2);
        Check.range("cut(?, 1)", run -> x.cut(run, 1), 0, 1, -2);
    }

    // "SEED (0 .. 99999)"; "the first is (SEED and 1) times 48271 modulo 2147483647"
    private static void shuffleSeeds() {
        // three cards: LOT modulo 3, then the next one modulo 2
        FiveCards least = Check.with(11100, 1);
        // 48271 is 1 more than 3 times 16090; 48271 * 48271 modulo 2147483647 is 182605794
        least.shuffle(0, 0);
        Check.rowIs(least, 0, 0, "201");
        FiveCards most = Check.with(11100, 1);
        // 4827100000 less 2 * 2147483647 is 532132706, 2 by 3; the next one is 532132706 * 48271 modulo 2147483647
        most.shuffle(0, 99999);
        boolean odd = 532132706L * 48271 % 2147483647 % 2 == 1;
        Check.rowIs(most, 0, 0, odd ? "012" : "102");
        FiveCards x = Check.with(11100, 1);
        Check.range("shuffle(0, ?)", seed -> x.shuffle(0, seed), 0, 99999, -2);
        Check.range("shuffle(?, 0)", run -> x.shuffle(run, 0), 0, 0, -2);
    }

    // "each further one the last times 48271 modulo 2147483647": what comes between is more than an int holds
    private static void shuffleLotsAreLong() {
        for (int seed : new int[] {0, 1, 44488, 44489, 99998, 99999}) {
            FiveCards x = Check.with(55555, 1);
            int[] cards = new int[25];
            for (int i = 0; i < 25; i++) {
                cards[i] = i / 5;
            }
            long lot = seed + 1L;
            for (int place = 24; place >= 1; place--) {
                lot = lot * 48271L % 2147483647L;
                int other = (int) (lot % (place + 1L));
                int card = cards[place];
                cards[place] = cards[other];
                cards[other] = card;
            }
            StringBuilder due = new StringBuilder();
            int hits = 0;
            for (int card : cards) {
                due.append(card);
            }
            for (int card : cards) {
                hits += card == 0 ? 1 : 0;
            }
            Check.due("shuffle(0, " + seed + ")", x.shuffle(0, seed), hits);
            Check.rowIs(x, 0, 0, due.toString());
            Check.rowIs(x, 0, 1, "0000000000000000000000000");
        }
    }

    // "from the last place down to place 1": place 0 changes with none
    private static void shuffleOfFewCards() {
        FiveCards one = Check.with(10000, 1);
        Check.due("shuffle(0, 7) of one card", one.shuffle(0, 7), 1);
        Check.rowIs(one, 0, 0, "0");
        // two cards: the LOT is even for odd SEEDS, and then they change
        FiveCards two = Check.with(11000, 1);
        two.shuffle(0, 0);
        Check.rowIs(two, 0, 0, "01");
        two.shuffle(0, 1);
        Check.rowIs(two, 0, 0, "10");
        two.shuffle(0, 2);
        Check.rowIs(two, 0, 0, "10");
        two.shuffle(0, 3);
        Check.rowIs(two, 0, 0, "01");
    }

    // "BAD."
    private static void shuffleRefusals() {
        Twins twins = Twins.usual();
        Check.due("shuffle(0, 100000)", twins.asked.shuffle(0, 100000), -2);
        Check.due("shuffle(0, -1)", twins.asked.shuffle(0, -1), -2);
        Check.due("shuffle(4, 1)", twins.asked.shuffle(4, 1), -2);
        Check.due("shuffle(-1, 1)", twins.asked.shuffle(-1, 1), -2);
        twins.areAlike("shuffle");
        Check.due("shuffle(0, 0), no run", new FiveCards().shuffle(0, 0), -2);
    }
}
