/** Promise 20, how deep a TEXT may go and what an E comes to, at their edges; the sentence stands ahead of each test. */
public final class EdgesRulesTest {
    private static final String LEAST = "8192*8192*32";

    public static void main(String[] args) {
        fiveMayBeOpen();
        theSixthIsAFault();
        aBracketIsOpenTillItsEnd();
        notIsOpenTillItsEnd();
        minusIsOpenTillItsEnd();
        openInEachPart();
        minusBetweenOpensNothing();
        tooDeepIsAheadOfWhatFollows();
        noneIsOpenAfterAFault();
        sumsWrapAround();
        productsWrapAround();
        minusWrapsAround();
        comparisonsOfTheFarthest();
        oneOrZero();
        whatIsNotZeroIsTrue();
        firstThingsFirst();
        runFromZero();
        allTillThen();
        leaksDayNext();
        theRuleAtFirst();
        stopAtFirst();
        forceTexts();
        forceRefusals();
        Check.end();
    }

    private static void faultAt(int place, String e) {
        FiveCards x = new FiveCards();
        Check.due("text(), stop " + e, Check.read(x, "stop " + e + ";keep 0;say 0;"), -100 - 5 - place);
        Check.due("text(), keep " + e, Check.read(x, "stop 0;keep " + e + ";say 0;"), -100 - 12 - place);
        Check.due("text(), say " + e, Check.read(x, "stop 0;keep 0;say " + e + ";"), -100 - 18 - place);
        Check.due("count(4)", x.count(4), 1);
    }

    private static void stands(String e) {
        FiveCards x = new FiveCards();
        Check.due("text(), stop " + e, Check.read(x, "stop " + e + ";keep 0;say 0;"), 1);
        Check.due("text(), keep " + e, Check.read(x, "stop 0;keep " + e + ";say 0;"), 2);
        Check.due("text(), say " + e, Check.read(x, "stop 0;keep 0;say " + e + ";"), 3);
    }

    private static void says(String e, int due) {
        FiveCards x = Check.with(1, 1);
        Check.due("say " + e, Check.said(x, 0, e), due);
    }

    // "while 5 of these are open"
    private static void fiveMayBeOpen() {
        says("(((((7)))))", 7);
        says("-----7", -7);
        says("not not not not not 7", 0);
        says("not(-(-7))", 0);
        says("not not((-7))", 1);
        says("not(-(not 7))", 1);
        says("-(-(-7))", -7);
        says("(-(-(7)))", 7);
        says("not not not(-7)", 0);
        says("((((-7))))", -7);
        says("((((not 7))))", 0);
    }

    // "a ( , a not, a - ahead of a ONE while 5 of these are open"
    private static void theSixthIsAFault() {
        faultAt(5, "((((((7))))))");
        faultAt(5, "-----(7)");
        faultAt(5, "------7");
        faultAt(5, "(((((-7)))))");
        faultAt(5, "(((((not 7)))))");
        faultAt(20, "not not not not not not 7");
        faultAt(20, "not not not not not -7");
        faultAt(20, "not not not not not (7)");
        faultAt(7, "not(-(-(7)))");
        faultAt(7, "not(-(--7))");
        faultAt(7, "not(-(-not 7))");
        faultAt(10, "not not(-((7)))");
    }

    // "(a ( till its )"
    private static void aBracketIsOpenTillItsEnd() {
        says("(((((1)))))+(((((2)))))", 3);
        says("((((1)+(2))*(3)))", 9);
        says("((((1)))*(((2)))+((((3)))))", 5);
        says("(1)+(1)+(1)+(1)+(1)+(1)+(1)", 7);
        says("(((((1)+1)+1)+1)+1)", 5);
        says("((((1)))+((((2)))))", 3);
        faultAt(13, "((((1)))+(((((2))))))");
    }

    // "not .. till what they belong to ends"
    private static void notIsOpenTillItsEnd() {
        // a not holds what is compared, too: four brackets more may stand behind it, but no fifth
        says("not 1<((((2))))", 0);
        faultAt(10, "not 1<(((((2)))))");
        says("not 1<2 and (((((1)))))", 0);
        says("not 1 or not 2 or not 3 or not 4 or not 5 or not 0", 1);
        says("(((not 1) or ((2))))", 1);
        says("not not not not 0 and not not not not not 0", 0);
        says("not not not not not 0 and not not not not not 0", 1);
        says("not 0*1+((((1))))", 0);
        faultAt(12, "not 0*1+(((((1)))))");
    }

    // "- till what they belong to ends"
    private static void minusIsOpenTillItsEnd() {
        // a - belongs to the ONE behind it alone
        says("-1*(((((2)))))", -2);
        says("-1+(((((2)))))", 1);
        says("-----1*-----1", 1);
        says("-----1------1", 0);
        says("-((((2))))*(((((3)))))", -6);
        faultAt(5, "-(((((2)))))");
        says("-1*-1*-1*-1*-1*-1*-1", -1);
    }

    private static void openInEachPart() {
        stands("(((((1)))))");
        stands("-----1");
        stands("not not not not not 1");
        FiveCards x = new FiveCards();
        Check.due("text(), five in each part",
            Check.read(x, "stop (((((1)))));keep not not not not not 1;say -----1;"), 1);
    }

    // "a - ahead of a ONE": one between two TERMS is no such one
    private static void minusBetweenOpensNothing() {
        says("9-1-1-1-1-1-1", 3);
        says("(((((9-1-1)))))", 7);
        says("-----9-1", -10);
        says("(((((1*2-3)))))", -1);
        faultAt(7, "(((((1--3)))))");
        faultAt(7, "(((((1*-3)))))");
        faultAt(7, "(((((1<-3)))))");
    }

    // the first TOKEN that can't stand there is told, whatever follows
    private static void tooDeepIsAheadOfWhatFollows() {
        faultAt(5, "((((((?");
        faultAt(5, "------");
        faultAt(4, "((((?");
        faultAt(5, "(((((?");
        faultAt(5, "((((()");
        faultAt(20, "not not not not not not not");
    }

    // a TEXT begins with none open, whatever was open where the last one had its FAULT
    private static void noneIsOpenAfterAFault() {
        FiveCards x = new FiveCards();
        for (int k = 1; k < 6; k++) {
            Check.due("text(), too deep", Check.read(x, "stop ((((((1"), -110);
            Check.due("text(), it ends while five are open", Check.read(x, "stop not not (--"), -116);
            Check.due("text(), five open", Check.read(x, "stop (((((1)))));keep -----1;say not not not not not 1;"), k);
        }
    }

    // "(32 bits, wrapping)"
    private static void sumsWrapAround() {
        says(LEAST, Integer.MIN_VALUE);
        says(LEAST + "-1", Integer.MAX_VALUE);
        says(LEAST + "-1+1", Integer.MIN_VALUE);
        says("0-" + LEAST + "-1", Integer.MAX_VALUE);
        says(LEAST + "+" + LEAST, 0);
        says("-1-(" + LEAST + "-1)", Integer.MIN_VALUE);
        says("-2-(" + LEAST + "-1)", Integer.MAX_VALUE);
    }

    private static void productsWrapAround() {
        says("8192*8192*31", 2080374784);
        says("8192*8192*64", 0);
        says("9999*9999*9999", (int) (9999L * 9999L * 9999L));
        says("-9999*9999*9999", (int) (-9999L * 9999L * 9999L));
        says("(" + LEAST + "-1)*2", -2);
        says(LEAST + "*-1", Integer.MIN_VALUE);
    }

    private static void minusWrapsAround() {
        says("-(" + LEAST + ")", Integer.MIN_VALUE);
        says("-(" + LEAST + "-1)", Integer.MIN_VALUE + 1);
        says("-0", 0);
    }

    private static void comparisonsOfTheFarthest() {
        says(LEAST + "<" + LEAST + "-1", 1);
        says(LEAST + "-1<" + LEAST, 0);
        says(LEAST + "=0-" + LEAST, 1);
        says("0<" + LEAST, 0);
        says("0<" + LEAST + "-1", 1);
        says("1<1", 0);
        says("1<2", 1);
        says("2<1", 0);
        says("-1<0", 1);
        says("0=-0", 1);
        says("1=-1", 0);
    }

    // "of or and, not, <, = 1 or 0"
    private static void oneOrZero() {
        says("5 or 6", 1);
        says("0 or 6", 1);
        says("5 or 0", 1);
        says("0 or 0", 0);
        says("5 and 6", 1);
        says("5 and 0", 0);
        says("0 and 6", 0);
        says("0 and 0", 0);
        says("2 and 1", 1);
        says("not 5", 0);
        says("not 0", 1);
        says("not not 5", 1);
        says("5", 5);
        says("(5)", 5);
        says("(5 or 0)+(6 and 7)+(not 0)+(1<2)+(3=3)", 5);
    }

    // "(what is not 0 is true)"
    private static void whatIsNotZeroIsTrue() {
        says("-1 or 0", 1);
        says("-1 and -2", 1);
        says("not -1", 0);
        says("not " + LEAST, 0);
        says(LEAST + " and 1", 1);
        says("8192*8192*64 or 0", 0);
        says("not 8192*8192*64", 1);
    }

    // AND is closer than or, * than + and -, which go from the left
    private static void firstThingsFirst() {
        says("1 or 0 and 0", 1);
        says("0 and 0 or 1", 1);
        says("(1 or 0) and 0", 0);
        says("not 0 and 0", 0);
        says("not (0 and 0)", 1);
        says("not 1<0", 1);
        says("(not 1)<0", 0);
        says("2+3*4", 14);
        says("2*3+4", 10);
        says("9-3-2", 4);
        says("9-3+2", 8);
        says("1+1<2*2", 1);
        says("-2*3", -6);
        says("-2+3", 1);
    }

    // "run: its place among all RUNS of its GUESSER (by numbers, from 0; 0 in say)"
    private static void runFromZero() {
        FiveCards x = new FiveCards();
        x.pack(1);
        int[] guessers = {3, 0, 3, 3, 0, 7};
        int[] places = {0, 0, 1, 2, 1, 0};
        for (int k = 0; k < guessers.length; k++) {
            x.run(0, guessers[k], 50 - k);
        }
        for (int place = 0; place < 4; place++) {
            x.force(Check.read(x, "stop 0;keep run=" + place + ";say run;"));
            for (int k = 0; k < guessers.length; k++) {
                Check.due("told(" + k + ", 12), run=" + place, x.told(k, 12), places[k] == place ? 1 : 0);
                Check.due("told(" + k + ", 13)", x.told(k, 13), 0);
            }
        }
    }

    // "all: HITS of these till then, with it (in say as hits)"
    private static void allTillThen() {
        FiveCards x = new FiveCards();
        x.pack(21000);
        int[] guessers = {3, 0, 3, 3, 0};
        int[] sums = {2, 2, 4, 6, 4};
        for (int k = 0; k < guessers.length; k++) {
            x.run(0, guessers[k], 0);
        }
        for (int sum = 0; sum <= 6; sum += 2) {
            x.force(Check.read(x, "stop 0;keep all=" + sum + ";say all;"));
            for (int k = 0; k < guessers.length; k++) {
                Check.due("told(" + k + ", 12), all=" + sum, x.told(k, 12), sums[k] == sum ? 1 : 0);
                Check.due("told(" + k + ", 13)", x.told(k, 13), 2);
            }
        }
    }

    // "leaks: BOUND; day: DAY; next: NEXT"
    private static void leaksDayNext() {
        FiveCards x = new FiveCards();
        x.pack(30000);
        x.run(0, 0, 0);
        x.run(0, 0, 99);
        x.force(Check.read(x, "stop 0;keep 0;say day*100+leaks*10+next;"));
        Check.due("told(0, 13), day 0", x.told(0, 13), 2);
        Check.due("told(1, 13), day 99", x.told(1, 13), 9902);
        x.leak(0, 25, 0);
        Check.due("told(1, 13), no more than cards", x.told(1, 13), 9932);
        x.shut(0, 1);
        Check.due("told(1, 13), shut", x.told(1, 13), 9902);
    }

    /** A RUN of nine CARDS with so many HITS. */
    private static FiveCards withHits(int hits) {
        FiveCards x = Check.with(90000, 1);
        for (int i = hits; i < 9; i++) {
            x.slip(0, i, 1);
        }
        return x;
    }

    // "TEXT 0, at first THE RULE, is: stop 8 < hits ; keep 4 < hits ; say hits - leaks - 5 ;"
    private static void theRuleAtFirst() {
        for (int hits = 0; hits <= 9; hits++) {
            FiveCards x = withHits(hits);
            Check.due("count(6)", x.count(6), 0);
            Check.due("told(0, 12), hits " + hits, x.told(0, 12), hits > 4 ? 1 : 0);
            Check.due("told(0, 13), hits " + hits, x.told(0, 13), hits - 5);
            x.leak(0, 3, 0);
            Check.due("told(0, 13), hits " + hits + ", a leak of 3", x.told(0, 13), hits - 8);
        }
    }

    private static void stopAtFirst() {
        for (int hits = 0; hits <= 9; hits++) {
            FiveCards x = withHits(hits);
            x.run(0, 0, 0);
            Check.due("series(0, 0, 0), hits " + hits, x.series(0, 0, 0), hits > 8 ? 1 : 2);
            Check.due("series(0, 1, 0), hits " + hits, x.series(0, 1, 0), hits > 4 ? 2 : 1);
        }
    }

    // "A TEXT is THE RULE: which was."
    private static void forceTexts() {
        FiveCards x = new FiveCards();
        Check.range("force(?), TEXT 0 alone", x::force, 0, 0, -2);
        Check.read(x, "stop 0;keep 0;say 1;");
        Check.read(x, "stop 0;keep 0;say 2;");
        Check.range("force(?), three of them", x::force, 0, 2, -2);
        Check.due("count(6)", x.count(6), 2);
        Check.due("force(2), it is so by now", x.force(2), 2);
        Check.due("force(0)", x.force(0), 2);
        Check.due("force(1)", x.force(1), 0);
        Check.due("force(0)", x.force(0), 1);
    }

    // "BAD."
    private static void forceRefusals() {
        Twins twins = Twins.usual();
        Check.due("force(2)", twins.asked.force(2), -2);
        Check.due("force(-1)", twins.asked.force(-1), -2);
        Check.due("force(6)", twins.asked.force(6), -2);
        twins.areAlike("force");
        twins = Twins.full();
        Check.due("force(6), full", twins.asked.force(6), -2);
        twins.areAlike("force, full");
    }
}
