/** Promises 9 and 10 at their edges: each sentence that names one has a test; the sentence stands ahead of it. */
public final class EdgesToldExactTest {
    public static void main(String[] args) {
        toldNoneSuch();
        toldRefusals();
        hitsFromNoneToAll();
        nextLeavesTheLastOut();
        byLeftOfLikeOnesTheLeast();
        byLeftOfOneSign();
        alikeHasNoneAheadOfTheFirst();
        boundOfNoLeaks();
        boundIsNoMoreThanCards();
        sureIsAbove();
        sureHasAFifthCut();
        slipsAreCounted();
        slipOverTheSameSign();
        putInBothWays();
        putInByCardsAsTheyLay();
        keptOrNot();
        sayIsOfTheRunAlone();
        exactOfNoneSuch();
        exactRefusals();
        exactOfOneCard();
        exactOfOneSign();
        exactOfMoreHitsThanCards();
        exactOfNoneGuessed();
        exactOfAllCards();
        Check.end();
    }

    private static void toldIs(FiveCards x, int run, int what, int due) {
        Check.due("told(" + run + ", " + what + ")", x.told(run, what), due);
    }

    // "-1000000: none such."
    private static void toldNoneSuch() {
        FiveCards x = Check.with(11111, 2);
        Check.range("told(0, ?)", what -> x.told(0, what), 0, 13, -1000000);
        Check.range("told(?, 3)", run -> x.told(run, 3), 0, 1, -1000000);
        for (int what = 0; what < 14; what++) {
            Check.holds("told(0, " + what + ") is told", x.told(0, what) != -1000000);
            Check.due("told(2, " + what + "), no such run", x.told(2, what), -1000000);
            Check.due("told(0, " + what + "), no run", new FiveCards().told(0, what), -1000000);
        }
    }

    private static void toldRefusals() {
        Twins twins = Twins.usual();
        Check.due("told(0, 14)", twins.asked.told(0, 14), -1000000);
        Check.due("told(4, 4)", twins.asked.told(4, 4), -1000000);
        Check.due("told(-1, 4)", twins.asked.told(-1, 4), -1000000);
        for (int what = 0; what < 14; what++) {
            twins.asked.told(0, what);
        }
        twins.areAlike("told");
    }

    // "HITS of a RUN: places at which GUESS and CARD are alike"
    private static void hitsFromNoneToAll() {
        FiveCards x = Check.with(11111, 1);
        Check.guesses(x, 0, 1, 2, 3, 4, 0);
        toldIs(x, 0, 4, 0);
        x.cut(0, 1);
        toldIs(x, 0, 4, 5);
        FiveCards first = Check.with(11111, 1);
        toldIs(first, 0, 4, 1);
        FiveCards last = Check.with(11111, 1);
        Check.guesses(last, 0, 4, 4, 4, 4, 4);
        toldIs(last, 0, 4, 1);
    }

    // "places i at which the GUESS is as the CARD at i and 1 (the last one not)"
    private static void nextLeavesTheLastOut() {
        FiveCards one = Check.with(10000, 1);
        toldIs(one, 0, 5, 0);
        // the last GUESS is as the first CARD, and as its own: neither counts
        FiveCards x = Check.with(30000, 1);
        Check.guesses(x, 0, 4, 4, 0);
        toldIs(x, 0, 5, 0);
        Check.guesses(x, 0, 4, 0, 4);
        toldIs(x, 0, 5, 1);
        Check.guesses(x, 0, 0, 0, 0);
        toldIs(x, 0, 5, 2);
        // the first CARD is the next of none
        FiveCards first = Check.with(12000, 1);
        toldIs(first, 0, 5, 0);
    }

    // "of like ones the least"
    private static void byLeftOfLikeOnesTheLeast() {
        // 01234: of five like ones 0 is guessed, then of four 1, and so on
        FiveCards x = Check.with(11111, 1);
        toldIs(x, 0, 6, 5);
        x.cut(0, 1);
        // 12340: 0 is guessed each time till it is the last one left
        toldIs(x, 0, 6, 1);
        x.cut(0, 3);
        // 40123: 0 is no hit, and then each is one
        Check.rowIs(x, 0, 0, "40123");
        toldIs(x, 0, 6, 4);
        FiveCards last = Check.with(11, 1);
        last.cut(0, 1);
        Check.rowIs(last, 0, 0, "43");
        toldIs(last, 0, 6, 1);
    }

    private static void byLeftOfOneSign() {
        FiveCards x = Check.with(9, 1);
        toldIs(x, 0, 6, 9);
        FiveCards one = Check.with(100, 1);
        toldIs(one, 0, 6, 1);
        FiveCards more = Check.with(12, 1);
        Check.rowIs(more, 0, 0, "344");
        // 4 is guessed, then 4 for most are left, then 4
        toldIs(more, 0, 6, 2);
    }

    // "how often one is as the one ahead of it"
    private static void alikeHasNoneAheadOfTheFirst() {
        toldIs(Check.with(1, 1), 0, 7, 0);
        toldIs(Check.with(2, 1), 0, 7, 1);
        toldIs(Check.with(11111, 1), 0, 7, 0);
        toldIs(Check.with(90000, 1), 0, 7, 8);
        FiveCards x = Check.with(2100, 1);
        Check.rowIs(x, 0, 0, "112");
        toldIs(x, 0, 7, 1);
        x.cut(0, 1);
        // the first and the last one are alike, but none is ahead of the first
        Check.rowIs(x, 0, 0, "121");
        toldIs(x, 0, 7, 0);
    }

    // "BOUND of a RUN: what all LEAKS GIVE of it together": none at first
    private static void boundOfNoLeaks() {
        FiveCards x = Check.with(55555, 1);
        toldIs(x, 0, 8, 0);
        x.leak(0, 0, 0);
        toldIs(x, 0, 8, 0);
        x.leak(0, 25, 0);
        toldIs(x, 0, 8, 25);
        x.shut(1, 1);
        toldIs(x, 0, 8, 0);
    }

    // "no more than its CARDS"
    private static void boundIsNoMoreThanCards() {
        FiveCards x = Check.with(11111, 1);
        x.leak(0, 3, 0);
        x.leak(0, 1, 0);
        toldIs(x, 0, 8, 4);
        x.leak(0, 1, 0);
        toldIs(x, 0, 8, 5);
        x.leak(0, 1, 0);
        toldIs(x, 0, 8, 5);
        x.shut(0, 1);
        toldIs(x, 0, 8, 3);
        FiveCards most = Check.with(1, 1);
        for (int k = 0; k < 10; k++) {
            most.leak(1, 25, 0);
        }
        toldIs(most, 0, 8, 1);
    }

    // "SURE: HITS are above BOUND and a fifth (cut) of its CARDS together"
    private static void sureIsAbove() {
        FiveCards x = Check.with(55555, 1);
        toldIs(x, 0, 4, 5);
        toldIs(x, 0, 9, 0);
        x.slip(0, 5, 1);
        toldIs(x, 0, 4, 6);
        toldIs(x, 0, 9, 1);
        x.leak(0, 1, 0);
        toldIs(x, 0, 9, 0);
        x.shut(0, 1);
        toldIs(x, 0, 9, 1);
        FiveCards none = Check.with(4, 1);
        toldIs(none, 0, 9, 0);
    }

    // "a fifth (cut)"; "Quotients are cut toward 0."
    private static void sureHasAFifthCut() {
        // 4 CARDS: a fifth is 0; 5 CARDS: 1; 9 CARDS: 1; 10 CARDS: 2
        FiveCards four = Check.with(10003, 1);
        toldIs(four, 0, 4, 1);
        toldIs(four, 0, 9, 1);
        FiveCards five = Check.with(10004, 1);
        toldIs(five, 0, 4, 1);
        toldIs(five, 0, 9, 0);
        FiveCards nine = Check.with(20007, 1);
        toldIs(nine, 0, 4, 2);
        toldIs(nine, 0, 9, 1);
        FiveCards ten = Check.with(20008, 1);
        toldIs(ten, 0, 4, 2);
        toldIs(ten, 0, 9, 0);
    }

    // "WRITTEN anew: .. (by call; SLIPS are counted)"
    private static void slipsAreCounted() {
        FiveCards x = Check.with(55555, 2);
        toldIs(x, 0, 10, 0);
        Check.guesses(x, 0, 4, 3, 2, 1, 0);
        toldIs(x, 0, 10, 0);
        for (int k = 1; k <= 30; k++) {
            x.slip(0, k % 25, k % 5);
            toldIs(x, 0, 10, k);
        }
        toldIs(x, 1, 10, 0);
    }

    private static void slipOverTheSameSign() {
        FiveCards x = Check.with(10001, 1);
        Check.due("slip(0, 0, 0), a hit over a hit", x.slip(0, 0, 0), 0);
        Check.due("slip(0, 1, 0), none over none", x.slip(0, 1, 0), 0);
        toldIs(x, 0, 10, 2);
        toldIs(x, 0, 11, 0);
    }

    // "in how many the GUESS became a HIT that was none, less in how many it was one and became none"
    private static void putInBothWays() {
        FiveCards x = Check.with(10100, 1);
        toldIs(x, 0, 11, 0);
        x.slip(0, 0, 4);
        toldIs(x, 0, 11, -1);
        x.slip(0, 0, 3);
        toldIs(x, 0, 11, -1);
        x.slip(0, 1, 2);
        toldIs(x, 0, 11, 0);
        x.slip(0, 1, 2);
        toldIs(x, 0, 11, 0);
        x.slip(0, 0, 0);
        toldIs(x, 0, 11, 1);
        toldIs(x, 0, 10, 5);
    }

    // "(by CARDS as they lay then)"
    private static void putInByCardsAsTheyLay() {
        FiveCards x = Check.with(10100, 1);
        x.slip(0, 1, 2);
        toldIs(x, 0, 11, 1);
        x.cut(0, 1);
        toldIs(x, 0, 4, 0);
        toldIs(x, 0, 11, 1);
        x.slip(0, 1, 0);
        toldIs(x, 0, 11, 2);
        x.shuffle(0, 5);
        Check.guesses(x, 0, 3, 3);
        toldIs(x, 0, 11, 2);
        toldIs(x, 0, 10, 2);
    }

    // "12 whether it is KEPT"; "what is not 0 is true"
    private static void keptOrNot() {
        String[] keeps = {"0", "1", "2", "-1", "0-1", "9999", "1-1"};
        int[] due = {0, 1, 1, 1, 1, 1, 0};
        for (int k = 0; k < keeps.length; k++) {
            FiveCards x = Check.with(1, 1);
            x.force(Check.read(x, "stop 0;keep " + keeps[k] + ";say 0;"));
            toldIs(x, 0, 12, due[k]);
        }
        FiveCards x = Check.with(50000, 1);
        toldIs(x, 0, 12, 1);
        x.slip(0, 0, 1);
        toldIs(x, 0, 12, 0);
    }

    // "13 what say comes to"; "run: .. 0 in say"; "all: .. in say as hits"
    private static void sayIsOfTheRunAlone() {
        FiveCards x = Check.with(20000, 3);
        x.force(Check.read(x, "stop 0;keep run=2 and all=6;say run*100+all*10+hits;"));
        toldIs(x, 0, 13, 22);
        toldIs(x, 2, 13, 22);
        toldIs(x, 2, 12, 1);
        toldIs(x, 1, 12, 0);
        FiveCards low = Check.with(1, 1);
        low.force(Check.read(low, "stop 0;keep 0;say 0-1000*1000;"));
        Check.due("told(0, 13), what it comes to is as what none such is", low.told(0, 13), -1000000);
    }

    private static void exactIs(FiveCards x, int hits, long orders, long all) {
        Check.due("exact(0, " + hits + ", 0)", x.exact(0, hits, 0), orders);
        Check.due("exact(0, " + hits + ", 1)", x.exact(0, hits, 1), all);
    }

    // "just so many HITS (0 .. 25)"; "(part 0) .. (1)"; "NO: none such."
    private static void exactOfNoneSuch() {
        FiveCards x = Check.with(11111, 2);
        Check.range("exact(0, ?, 0)", hits -> x.exact(0, hits, 0), 0, 25, FiveCards.NO);
        Check.range("exact(0, ?, 1)", hits -> x.exact(0, hits, 1), 0, 25, FiveCards.NO);
        Check.range("exact(0, 0, ?)", part -> x.exact(0, 0, part), 0, 1, FiveCards.NO);
        Check.range("exact(?, 0, 0)", run -> x.exact(run, 0, 0), 0, 1, FiveCards.NO);
        Check.due("exact(0, 0, 1), no run", new FiveCards().exact(0, 0, 1), FiveCards.NO);
    }

    private static void exactRefusals() {
        Twins twins = Twins.usual();
        Check.due("exact(0, 26, 0)", twins.asked.exact(0, 26, 0), FiveCards.NO);
        Check.due("exact(4, 0, 0)", twins.asked.exact(4, 0, 0), FiveCards.NO);
        Check.due("exact(0, 0, 2)", twins.asked.exact(0, 0, 2), FiveCards.NO);
        twins.asked.exact(0, 3, 0);
        twins.areAlike("exact");
    }

    private static void exactOfOneCard() {
        FiveCards hit = Check.with(10000, 1);
        exactIs(hit, 0, 0, 1);
        exactIs(hit, 1, 1, 1);
        exactIs(hit, 2, 0, 1);
        FiveCards none = Check.with(1, 1);
        exactIs(none, 0, 1, 1);
        exactIs(none, 1, 0, 1);
        exactIs(none, 25, 0, 1);
    }

    // "(like cards are alike)": there is one order
    private static void exactOfOneSign() {
        FiveCards x = Check.with(900, 1);
        exactIs(x, 0, 1, 1);
        Check.guesses(x, 0, 2, 2, 2, 2, 2, 2, 2, 2, 2);
        exactIs(x, 9, 1, 1);
        exactIs(x, 8, 0, 1);
        Check.guesses(x, 0, 2, 0, 2, 2, 4, 2, 2, 2, 2);
        exactIs(x, 7, 1, 1);
        exactIs(x, 9, 0, 1);
    }

    // HITS may be asked for up to 25, whatever the RUN's CARDS are
    private static void exactOfMoreHitsThanCards() {
        FiveCards x = Check.with(11000, 1);
        Check.guesses(x, 0, 0, 1);
        exactIs(x, 0, 1, 2);
        exactIs(x, 1, 0, 2);
        exactIs(x, 2, 1, 2);
        for (int hits = 3; hits <= 25; hits++) {
            exactIs(x, hits, 0, 2);
        }
    }

    // a SIGN of which the PACK has no card is guessed throughout
    private static void exactOfNoneGuessed() {
        FiveCards x = Check.with(55550, 1);
        Check.guesses(x, 0, 4, 4, 4, 4, 4, 4, 4, 4, 4, 4, 4, 4, 4, 4, 4, 4, 4, 4, 4, 4);
        exactIs(x, 0, 11732745024L, 11732745024L);
        exactIs(x, 1, 0, 11732745024L);
        exactIs(x, 20, 0, 11732745024L);
    }

    // 25 CARDS: the sum over all HITS is how many orders there are; the answers are of GUESSES, not of CARDS
    private static void exactOfAllCards() {
        long all = 623360743125120L;
        FiveCards x = Check.with(55555, 1);
        Check.guesses(x, 0, 0, 0, 0, 0, 0, 1, 1, 1, 1, 1, 2, 2, 2, 2, 2, 3, 3, 3, 3, 3, 4, 4, 4, 4, 4);
        long[] seen = new long[26];
        long sum = 0;
        for (int hits = 0; hits <= 25; hits++) {
            seen[hits] = x.exact(0, hits, 0);
            sum += seen[hits];
            Check.holds("exact(0, " + hits + ", 0) is none below 0", seen[hits] >= 0);
        }
        Check.due("all together", sum, all);
        exactIs(x, 0, 2671644472544L, all);
        exactIs(x, 25, 1, all);
        exactIs(x, 24, 0, all);
        x.shuffle(0, 77);
        x.cut(0, 11);
        for (int hits = 0; hits <= 25; hits += 5) {
            exactIs(x, hits, seen[hits], all);
        }
        FiveCards nines = Check.with(99700, 1);
        exactIs(nines, 9, 23371634000L, 23371634000L);
        exactIs(nines, 8, 0, 23371634000L);
    }
}
