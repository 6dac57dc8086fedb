/** Promises 21 to 27 at their edges: each sentence that names one has a test; the sentence stands ahead of it. */
public final class EdgesSeriesTest {
    public static void main(String[] args) {
        seriesNoneSuch();
        seriesOfNoRuns();
        seriesTillItStops();
        seriesThatNeverStops();
        seriesStopsByWhatIsNotZero();
        seriesOfOneGuesser();
        keptStopOrNot();
        keptNoneAndAll();
        expectedInLowestTerms();
        gainOnEachSide();
        expectedOfLargePacks();
        bestNone();
        bestDays();
        bestDaysAheadOfIt();
        bestMeansNotSums();
        bestOfLikeOnesTheLeast();
        bestRefusals();
        fallsNoneSuch();
        fallsOfNoneOfEither();
        fallsFromThatDayOn();
        fallsInLowestTerms();
        fallsOnEachSide();
        mixedSeeds();
        mixedNoFewer();
        mixedBehindTheLastSeed();
        mixedChangesNothing();
        mixedRefusals();
        Check.end();
    }

    private static void seriesIs(FiveCards x, int guesser, int kept, long... due) {
        for (int what = 0; what < due.length; what++) {
            Check.due("series(" + guesser + ", " + kept + ", " + what + ")", x.series(guesser, kept, what), due[what]);
        }
    }

    // "A SERIES (kept 0), KEPT (1): 0 .. 5"; "NO: none such."
    private static void seriesNoneSuch() {
        FiveCards x = Check.with(11111, 2);
        Check.range("series(?, 0, 0)", guesser -> x.series(guesser, 0, 0), 0, 7, FiveCards.NO);
        Check.range("series(0, ?, 0)", kept -> x.series(0, kept, 0), 0, 1, FiveCards.NO);
        Check.range("series(0, 0, ?)", what -> x.series(0, 0, what), 0, 5, FiveCards.NO);
        Check.range("series(0, 1, ?)", what -> x.series(0, 1, what), 0, 5, FiveCards.NO);
        Twins twins = Twins.usual();
        Check.due("series(8, 0, 0)", twins.asked.series(8, 0, 0), FiveCards.NO);
        Check.due("series(0, 2, 0)", twins.asked.series(0, 2, 0), FiveCards.NO);
        Check.due("series(0, 0, 6)", twins.asked.series(0, 0, 6), FiveCards.NO);
        twins.asked.series(0, 1, 3);
        twins.areAlike("series");
    }

    // "(above, below the line, in lowest terms; 0 by 1)"
    private static void seriesOfNoRuns() {
        FiveCards x = new FiveCards();
        for (int guesser = 0; guesser < 8; guesser++) {
            seriesIs(x, guesser, 0, 0, 0, 0, 1, 0, 1);
            seriesIs(x, guesser, 1, 0, 0, 0, 1, 0, 1);
        }
        // EXPECTED and GAIN are 0 by 1 also where there are RUNS, but none of their GUESSES is a SIGN of the PACK
        FiveCards none = Check.with(7, 2);
        none.force(Check.read(none, "stop 0;keep 1;say 0;"));
        seriesIs(none, 0, 0, 2, 0, 0, 1, 0, 1);
        seriesIs(none, 0, 1, 2, 0, 0, 1, 0, 1);
    }

    // "its RUNS by numbers, till behind one it stops (that counts)"
    private static void seriesTillItStops() {
        for (int last = 0; last < 4; last++) {
            FiveCards x = Check.with(20000, 4);
            x.force(Check.read(x, "stop run=" + last + ";keep 0;say 0;"));
            seriesIs(x, 0, 0, last + 1, 2 * last + 2, 2 * last + 2, 1, 0, 1);
        }
        // by numbers, not by DAYS
        FiveCards x = new FiveCards();
        x.pack(10000);
        x.run(0, 0, 9);
        x.run(0, 0, 5);
        x.run(0, 0, 1);
        x.force(Check.read(x, "stop day=5;keep 0;say 0;"));
        seriesIs(x, 0, 0, 2);
        x.force(Check.read(x, "stop day=1;keep 0;say 0;"));
        seriesIs(x, 0, 0, 3);
        x.force(Check.read(x, "stop day=9;keep 0;say 0;"));
        seriesIs(x, 0, 0, 1);
    }

    private static void seriesThatNeverStops() {
        FiveCards x = Check.with(10000, 16);
        x.force(Check.read(x, "stop 0;keep 0;say 0;"));
        seriesIs(x, 0, 0, 16, 16, 16, 1, 0, 1);
        x.force(Check.read(x, "stop 15<run;keep 0;say 0;"));
        seriesIs(x, 0, 0, 16);
        x.force(Check.read(x, "stop 14<run;keep 0;say 0;"));
        seriesIs(x, 0, 0, 16);
        x.force(Check.read(x, "stop 13<run;keep 0;say 0;"));
        seriesIs(x, 0, 0, 15);
    }

    // "(what is not 0 is true)"
    private static void seriesStopsByWhatIsNotZero() {
        FiveCards x = Check.with(10000, 3);
        String[] stops = {"2", "-1", "-9999", "1-1", "8192*8192*32"};
        for (int k = 0; k < stops.length; k++) {
            x.force(Check.read(x, "stop " + stops[k] + ";keep " + stops[k] + ";say 0;"));
            seriesIs(x, 0, 0, k == 3 ? 3 : 1);
            seriesIs(x, 0, 1, k == 3 ? 0 : 3);
        }
    }

    // "A SERIES of a GUESSER: its RUNS"
    private static void seriesOfOneGuesser() {
        FiveCards x = new FiveCards();
        x.pack(10000);
        for (int k = 0; k < 16; k++) {
            x.run(0, k % 8, 0);
        }
        for (int guesser = 0; guesser < 8; guesser++) {
            seriesIs(x, guesser, 0, 2, 2, 2, 1, 0, 1);
        }
        x.force(Check.read(x, "stop run=0;keep run=1;say 0;"));
        for (int guesser = 0; guesser < 8; guesser++) {
            seriesIs(x, guesser, 0, 1, 1, 1, 1, 0, 1);
            seriesIs(x, guesser, 1, 1, 1, 1, 1, 0, 1);
        }
    }

    // "KEPT: the same of those RUNS of all of the GUESSER's (stop or not) that are KEPT"
    private static void keptStopOrNot() {
        FiveCards x = Check.with(20000, 5);
        x.force(Check.read(x, "stop 1;keep 0<run;say 0;"));
        seriesIs(x, 0, 0, 1, 2, 2, 1, 0, 1);
        seriesIs(x, 0, 1, 4, 8, 8, 1, 0, 1);
        x.force(Check.read(x, "stop 1;keep run=4;say 0;"));
        seriesIs(x, 0, 1, 1, 2, 2, 1, 0, 1);
        // what is not kept counts in a SERIES all the same
        x.force(Check.read(x, "stop run=3;keep 0;say 0;"));
        seriesIs(x, 0, 0, 4, 8, 8, 1, 0, 1);
    }

    private static void keptNoneAndAll() {
        FiveCards x = Check.with(20000, 16);
        x.force(Check.read(x, "stop 0;keep 0;say 0;"));
        seriesIs(x, 0, 1, 0, 0, 0, 1, 0, 1);
        x.force(Check.read(x, "stop 1;keep 1;say 0;"));
        seriesIs(x, 0, 1, 16, 32, 32, 1, 0, 1);
        x.force(Check.read(x, "stop 1;keep -1;say 0;"));
        seriesIs(x, 0, 1, 16);
    }

    // "(a fraction: ..)"; "in lowest terms"
    private static void expectedInLowestTerms() {
        FiveCards x = Check.with(11110, 4);
        Check.guesses(x, 0, 0, 4, 4, 4);
        seriesIs(x, 0, 1, 0, 0, 0, 1, 0, 1);
        x.force(Check.read(x, "stop run=0;keep run<2;say 0;"));
        seriesIs(x, 0, 0, 1, 1, 1, 4, 3, 4);
        Check.guesses(x, 1, 4, 4, 4, 0);
        // 1/4 and 1/4
        seriesIs(x, 0, 1, 2, 1, 1, 2, 1, 2);
        Check.guesses(x, 1, 0, 0, 0, 4);
        // 1/4 and 3/4
        seriesIs(x, 0, 1, 2, 2, 1, 1, 1, 1);
        Check.guesses(x, 1, 4, 4, 0, 0);
        // 1/4 and 2/4
        seriesIs(x, 0, 1, 2, 1, 3, 4, 1, 4);
    }

    // "GAIN: HITS less EXPECTED (a fraction)"
    private static void gainOnEachSide() {
        FiveCards x = Check.with(21000, 1);
        seriesIs(x, 0, 0, 1, 2, 2, 1, 0, 1);
        Check.guesses(x, 0, 0, 0, 1);
        seriesIs(x, 0, 0, 1, 3, 5, 3, 4, 3);
        Check.guesses(x, 0, 1, 0, 0);
        seriesIs(x, 0, 0, 1, 1, 5, 3, -2, 3);
        Check.guesses(x, 0, 1, 1, 0);
        seriesIs(x, 0, 0, 1, 0, 4, 3, -4, 3);
        Check.guesses(x, 0, 1, 1, 1);
        seriesIs(x, 0, 0, 1, 1, 1, 1, 0, 1);
        Check.guesses(x, 0, 4, 4, 4);
        seriesIs(x, 0, 0, 1, 0, 0, 1, 0, 1);
    }

    // four PACKS that have no divisor in common: 23, 19, 17 and 25 CARDS
    private static void expectedOfLargePacks() {
        FiveCards x = new FiveCards();
        x.pack(99050);
        x.pack(99010);
        x.pack(98000);
        x.pack(99700);
        for (int k = 0; k < 16; k++) {
            x.run(k % 4, 0, 0);
        }
        x.force(Check.read(x, "stop 0;keep 1;say 0;"));
        for (int k = 0; k < 16; k++) {
            x.slip(k, 0, 1);
        }
        // of 23: (22 * 9 + 9) by 23, of 19: 9, of 17: (16 * 9 + 8) by 17, of 25: 9; each of them four times
        long below = 17;
        long above = 4 * (9 * 17 + 9 * 17 + 152 + 9 * 17);
        seriesIs(x, 0, 0, 16, 128, above, below, 128 * below - above, below);
        for (int k = 0; k < 16; k++) {
            x.slip(k, 1, 4);
        }
        // (21 * 9 + 9) by 23, (17 * 9 + 9) by 19, (15 * 9 + 8) by 17, (23 * 9 + 9) by 25
        below = 23L * 19 * 17 * 25;
        above = 4 * (198 * below / 23 + 162 * below / 19 + 143 * below / 17 + 216 * below / 25);
        seriesIs(x, 0, 0, 16, 112, above, below, 112 * below - above, below);
        seriesIs(x, 0, 1, 16, 112, above, below, 112 * below - above, below);
    }

    // "NONE: there are no such RUNS"
    private static void bestNone() {
        FiveCards x = new FiveCards();
        Check.due("best(0), no runs", x.best(0), -1);
        Check.due("best(100), no runs", x.best(100), -1);
        x.pack(1);
        x.run(0, 7, 50);
        Check.due("best(50), none ahead", x.best(50), -1);
        Check.due("best(51), a mean of 0", x.best(51), 7);
        Check.due("best(0)", x.best(0), -1);
    }

    // "BEST (day 0 .. 100). BAD; NONE."
    private static void bestDays() {
        FiveCards x = Check.with(10000, 0);
        x.run(0, 4, 0);
        x.run(0, 5, 99);
        x.slip(0, 0, 1);
        Check.range("best(?)", x::best, 0, 100, -2);
        Check.due("best(0), none is ahead of day 0", x.best(0), -1);
        Check.due("best(1)", x.best(1), 4);
        Check.due("best(99), that day not", x.best(99), 4);
        Check.due("best(100), day 99 with them", x.best(100), 5);
    }

    // "in RUNS of DAYS ahead of a told one"
    private static void bestDaysAheadOfIt() {
        FiveCards x = Check.with(30000, 0);
        x.run(0, 1, 10);
        x.run(0, 2, 11);
        Check.guesses(x, 0, 0, 1, 1);
        Check.due("best(10)", x.best(10), -1);
        Check.due("best(11)", x.best(11), 1);
        Check.due("best(12)", x.best(12), 2);
        x.run(0, 1, 11);
        x.run(0, 1, 12);
        Check.due("best(12), 1 and 3 by 2", x.best(12), 2);
        Check.due("best(13), 1, 3 and 3 by 3", x.best(13), 2);
    }

    // "the greatest mean of HITS .. (in fractions ..)"
    private static void bestMeansNotSums() {
        FiveCards x = Check.with(90000, 0);
        x.run(0, 0, 0);
        x.run(0, 0, 0);
        x.run(0, 0, 0);
        x.run(0, 1, 0);
        x.run(0, 1, 0);
        // 4 by 3 and 3 by 2: cut, both were 1
        Check.guesses(x, 0, 0, 0, 1, 1, 1, 1, 1, 1, 1);
        Check.guesses(x, 1, 0, 1, 1, 1, 1, 1, 1, 1, 1);
        Check.guesses(x, 2, 0, 1, 1, 1, 1, 1, 1, 1, 1);
        Check.guesses(x, 3, 0, 0, 1, 1, 1, 1, 1, 1, 1);
        Check.guesses(x, 4, 0, 1, 1, 1, 1, 1, 1, 1, 1);
        Check.due("best(1), 4/3 and 3/2", x.best(1), 1);
        x.slip(0, 2, 0);
        Check.due("best(1), 5/3 and 3/2", x.best(1), 0);
        x.slip(3, 2, 0);
        Check.due("best(1), 5/3 and 4/2", x.best(1), 1);
    }

    // "of like ones the least"
    private static void bestOfLikeOnesTheLeast() {
        FiveCards x = Check.with(20000, 0);
        x.run(0, 7, 0);
        x.run(0, 3, 1);
        Check.due("best(1)", x.best(1), 7);
        Check.due("best(2), alike", x.best(2), 3);
        x.run(0, 0, 2);
        x.run(0, 0, 2);
        Check.due("best(3), alike, 4 by 2", x.best(3), 0);
        x.slip(2, 0, 1);
        Check.due("best(3), 3 by 2", x.best(3), 3);
        FiveCards none = Check.with(1, 0);
        none.run(0, 6, 0);
        none.run(0, 5, 0);
        Check.due("best(1), alike, 0 by 1", none.best(1), 5);
    }

    private static void bestRefusals() {
        Twins twins = Twins.usual();
        Check.due("best(-1)", twins.asked.best(-1), -2);
        Check.due("best(101)", twins.asked.best(101), -2);
        Check.due("best(0)", twins.asked.best(0), -1);
        twins.areAlike("best");
        Check.due("best(101), no runs", new FiveCards().best(101), -2);
    }

    private static void fallsIs(FiveCards x, int guesser, int day, long above, long below) {
        Check.due("falls(" + guesser + ", " + day + ", 0)", x.falls(guesser, day, 0), above);
        Check.due("falls(" + guesser + ", " + day + ", 1)", x.falls(guesser, day, 1), below);
    }

    // "FALLS of a GUESSER (day 0 .. 100): part 0 .. 1 .. NO: none such."
    private static void fallsNoneSuch() {
        FiveCards x = Check.with(11111, 3);
        Check.range("falls(?, 1, 1)", guesser -> x.falls(guesser, 1, 1), 0, 7, FiveCards.NO);
        Check.range("falls(0, ?, 1)", day -> x.falls(0, day, 1), 0, 100, FiveCards.NO);
        Check.range("falls(0, 1, ?)", part -> x.falls(0, 1, part), 0, 1, FiveCards.NO);
        Twins twins = Twins.usual();
        Check.due("falls(8, 1, 0)", twins.asked.falls(8, 1, 0), FiveCards.NO);
        Check.due("falls(0, 101, 0)", twins.asked.falls(0, 101, 0), FiveCards.NO);
        Check.due("falls(0, 1, 2)", twins.asked.falls(0, 1, 2), FiveCards.NO);
        twins.asked.falls(0, 4, 1);
        twins.areAlike("falls");
    }

    // "(a fraction; 0 by 1, if there are none of either)"
    private static void fallsOfNoneOfEither() {
        FiveCards x = Check.with(20000, 0);
        fallsIs(x, 0, 50, 0, 1);
        x.run(0, 0, 50);
        fallsIs(x, 0, 50, 0, 1);
        fallsIs(x, 0, 51, 0, 1);
        fallsIs(x, 0, 0, 0, 1);
        fallsIs(x, 0, 100, 0, 1);
        // RUNS of others are none of these
        x.run(0, 1, 60);
        fallsIs(x, 0, 51, 0, 1);
        x.run(0, 0, 60);
        x.slip(2, 0, 1);
        fallsIs(x, 0, 51, 1, 1);
        fallsIs(x, 0, 50, 0, 1);
        fallsIs(x, 0, 61, 0, 1);
    }

    // "less that of its RUNS from that DAY on"
    private static void fallsFromThatDayOn() {
        FiveCards x = Check.with(20000, 0);
        x.run(0, 0, 0);
        x.run(0, 0, 49);
        x.run(0, 0, 99);
        x.slip(1, 0, 1);
        x.slip(2, 0, 1);
        x.slip(2, 1, 1);
        // HITS 2, 1, 0
        fallsIs(x, 0, 0, 0, 1);
        fallsIs(x, 0, 1, 3, 2);
        fallsIs(x, 0, 49, 3, 2);
        fallsIs(x, 0, 50, 3, 2);
        x.slip(2, 0, 0);
        // HITS 2, 1, 1
        fallsIs(x, 0, 49, 1, 1);
        fallsIs(x, 0, 50, 1, 2);
        fallsIs(x, 0, 99, 1, 2);
        fallsIs(x, 0, 100, 0, 1);
    }

    // "in lowest terms"
    private static void fallsInLowestTerms() {
        FiveCards x = Check.with(90000, 0);
        for (int k = 0; k < 8; k++) {
            x.run(0, 0, k / 4);
        }
        fallsIs(x, 0, 1, 0, 1);
        x.slip(0, 0, 1);
        fallsIs(x, 0, 1, -1, 4);
        x.slip(1, 0, 1);
        fallsIs(x, 0, 1, -1, 2);
        x.slip(2, 0, 1);
        fallsIs(x, 0, 1, -3, 4);
        x.slip(3, 0, 1);
        fallsIs(x, 0, 1, -1, 1);
        x.run(0, 0, 2);
        // 32 by 4, less 45 by 5
        fallsIs(x, 0, 1, -1, 1);
        x.slip(8, 3, 1);
        // 32 by 4, less 44 by 5
        fallsIs(x, 0, 1, -4, 5);
        // 68 by 8, less 8
        fallsIs(x, 0, 2, 1, 2);
    }

    private static void fallsOnEachSide() {
        FiveCards x = Check.with(90000, 0);
        x.run(0, 2, 10);
        x.run(0, 2, 20);
        x.slip(0, 0, 1);
        fallsIs(x, 2, 15, -1, 1);
        x.slip(1, 0, 1);
        fallsIs(x, 2, 15, 0, 1);
        x.slip(1, 1, 1);
        fallsIs(x, 2, 15, 1, 1);
        Check.guesses(x, 0, 1, 1, 1, 1, 1, 1, 1, 1, 1);
        fallsIs(x, 2, 15, -7, 1);
        Check.guesses(x, 1, 1, 1, 1, 1, 1, 1, 1, 1, 1);
        fallsIs(x, 2, 15, 0, 1);
        Check.guesses(x, 0, 0, 0, 0, 0, 0, 0, 0, 0, 0);
        fallsIs(x, 2, 15, 9, 1);
    }

    // "how often of n SEEDS from one on (1 .. 50 ..)"
    private static void mixedSeeds() {
        FiveCards x = Check.with(11000, 1);
        Check.guesses(x, 0, 0, 1);
        // two cards change for odd SEEDS
        Check.due("mixed(0, 0, 1)", x.mixed(0, 0, 1), 1);
        Check.due("mixed(0, 0, 2)", x.mixed(0, 0, 2), 1);
        Check.due("mixed(0, 0, 3)", x.mixed(0, 0, 3), 2);
        Check.due("mixed(0, 1, 1)", x.mixed(0, 1, 1), 0);
        Check.due("mixed(0, 1, 2)", x.mixed(0, 1, 2), 1);
        Check.due("mixed(0, 0, 49)", x.mixed(0, 0, 49), 25);
        Check.due("mixed(0, 0, 50)", x.mixed(0, 0, 50), 25);
        Check.range("mixed(0, 0, ?)", n -> x.mixed(0, 0, n), 1, 50, -2);
        Check.range("mixed(0, ?, 1)", seed -> x.mixed(0, seed, 1), 0, 99999, -2);
        Check.range("mixed(?, 0, 1)", run -> x.mixed(run, 0, 1), 0, 0, -2);
        Check.due("mixed(0, 0, 1), no run", new FiveCards().mixed(0, 0, 1), -2);
    }

    // "no fewer HITS than they have"
    private static void mixedNoFewer() {
        FiveCards alike = Check.with(90000, 1);
        Check.due("mixed(0, 0, 50), always as many", alike.mixed(0, 0, 50), 50);
        FiveCards none = Check.with(9, 1);
        Check.due("mixed(0, 0, 50), always none", none.mixed(0, 0, 50), 50);
        FiveCards one = Check.with(100, 1);
        Check.due("mixed(0, 99999, 50) of one card", one.mixed(0, 99999, 50), 50);
        FiveCards less = Check.with(11000, 1);
        Check.guesses(less, 0, 1, 0);
        Check.due("mixed(0, 0, 50), more or as many", less.mixed(0, 0, 50), 50);
    }

    // "(.. the first alone is asked for, those behind it are worked all the same)"
    private static void mixedBehindTheLastSeed() {
        FiveCards x = Check.with(11000, 1);
        Check.guesses(x, 0, 0, 1);
        Check.due("mixed(0, 99999, 1), odd", x.mixed(0, 99999, 1), 0);
        Check.due("mixed(0, 99999, 2), 100000 with it", x.mixed(0, 99999, 2), 1);
        Check.due("mixed(0, 99999, 50)", x.mixed(0, 99999, 50), 25);
        Check.due("mixed(0, 99998, 50)", x.mixed(0, 99998, 50), 25);
        Check.due("mixed(0, 100000, 1)", x.mixed(0, 100000, 1), -2);
    }

    // "(each from how they lie)"; "(Nothing changes.)"
    private static void mixedChangesNothing() {
        Twins twins = Twins.usual();
        int first = twins.asked.mixed(0, 3, 50);
        Check.due("mixed(0, 3, 50), again", twins.asked.mixed(0, 3, 50), first);
        int sum = 0;
        for (int k = 0; k < 50; k++) {
            sum += twins.asked.mixed(0, 3 + k, 1);
        }
        Check.due("mixed(0, .., 1), one by one", sum, first);
        twins.asked.mixed(1, 99999, 50);
        twins.areAlike("mixed");
    }

    // "BAD."
    private static void mixedRefusals() {
        Twins twins = Twins.usual();
        Check.due("mixed(4, 0, 1)", twins.asked.mixed(4, 0, 1), -2);
        Check.due("mixed(0, 100000, 1)", twins.asked.mixed(0, 100000, 1), -2);
        Check.due("mixed(0, -1, 1)", twins.asked.mixed(0, -1, 1), -2);
        Check.due("mixed(0, 0, 0)", twins.asked.mixed(0, 0, 0), -2);
        Check.due("mixed(0, 0, 51)", twins.asked.mixed(0, 0, 51), -2);
        twins.areAlike("mixed, refused");
    }
}
