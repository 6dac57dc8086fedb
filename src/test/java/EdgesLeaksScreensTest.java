/** Promises 11 to 17 at their edges: each sentence that names one has a test; the sentence stands ahead of it. */
public final class EdgesLeaksScreensTest {
    public static void main(String[] args) {
        leakKinds();
        leakNumbers();
        leakSigns();
        leaksAreTenAtMost();
        leakRefusals();
        openAtFirst();
        shutIs();
        shutRefusals();
        givesOfALeak();
        givesOfSeen();
        givesOfHeard();
        givesOfOrdered();
        givesOfWritten();
        givesOfPut();
        givesNothingIfShut();
        givesRefusals();
        countsOfEachKind();
        countsRefusals();
        screenHours();
        screenKinds();
        screensAreSixAtMost();
        screenRefusals();
        planForNone();
        planOfNone();
        planByKindAlone();
        planWithTheFewestHours();
        planOfLikeOnesTheLeast();
        planOfAllScreens();
        planBits();
        planRefusals();
        weighsOfNone();
        weighsOfAll();
        weighsBits();
        weighsRefusals();
        Check.end();
    }

    // "LEAKS .. have a KIND: 0 LEAK .. 5 PUT"
    private static void leakKinds() {
        FiveCards x = new FiveCards();
        Check.range("leak(?, 0, 0)", kind -> x.leak(kind, 0, 0), 0, 5, -2);
        Check.due("counts(0), of kind 0", x.counts(0), 1);
        Check.due("taken(1, 5), of kind 5", x.taken(1, 5), 0);
    }

    // "a NUMBER (0 .. 25)"
    private static void leakNumbers() {
        FiveCards x = new FiveCards();
        Check.range("leak(0, ?, 0)", number -> x.leak(0, number, 0), 0, 25, -2);
        Check.due("taken(0, 0)", x.taken(0, 0), 0);
        Check.due("taken(1, 0)", x.taken(1, 0), 25);
    }

    // "a SIGN"
    private static void leakSigns() {
        FiveCards x = Check.with(20001, 1);
        Check.range("leak(2, 9, ?)", sign -> x.leak(2, 9, sign), 0, 4, -2);
        Check.due("gives(0, 0), two cards of sign 0", x.gives(0, 0), 2);
        Check.due("gives(1, 0), one card of sign 4", x.gives(1, 0), 1);
    }

    // "LEAKS (10 at most, numbered from 0)"
    private static void leaksAreTenAtMost() {
        FiveCards x = new FiveCards();
        for (int k = 0; k < 10; k++) {
            Check.due("count(2)", x.count(2), k);
            Check.due("counts(" + k + "), no such leak yet", x.counts(k), -2);
            Check.due("leak(0, " + k + ", 0)", x.leak(0, k, 0), k);
        }
        Check.due("leak(0, 0, 0), the eleventh", x.leak(0, 0, 0), -4);
        Check.due("count(2)", x.count(2), 10);
        Check.due("taken(9, 0)", x.taken(9, 0), 9);
        Check.due("taken(10, 0)", x.taken(10, 0), -11);
    }

    // "BAD; FULL."
    private static void leakRefusals() {
        Twins twins = Twins.full();
        Check.due("leak(6, 0, 0), full, too", twins.asked.leak(6, 0, 0), -2);
        Check.due("leak(0, 26, 0), full, too", twins.asked.leak(0, 26, 0), -2);
        Check.due("leak(0, 0, 5), full, too", twins.asked.leak(0, 0, 5), -2);
        Check.due("leak(5, 25, 4), full", twins.asked.leak(5, 25, 4), -4);
        twins.areAlike("leak, full");
        twins = Twins.usual();
        Check.due("leak(-1, 0, 0)", twins.asked.leak(-1, 0, 0), -2);
        Check.due("leak(0, -1, 0)", twins.asked.leak(0, -1, 0), -2);
        Check.due("leak(0, 0, -1)", twins.asked.leak(0, 0, -1), -2);
        twins.areAlike("leak");
    }

    // "OPEN, or SHUT (by call; OPEN at first)"
    private static void openAtFirst() {
        FiveCards x = Check.with(1, 1);
        for (int kind = 0; kind < 6; kind++) {
            x.leak(kind, 1, 4);
            Check.due("gives(" + kind + ", 0), open at first", x.gives(kind, 0), 1);
            Check.due("shut(" + kind + ", 0), open at first", x.shut(kind, 0), 0);
        }
    }

    // "SHUT (1), or OPEN (0): what it was"
    private static void shutIs() {
        FiveCards x = new FiveCards();
        x.leak(0, 1, 0);
        x.leak(0, 1, 0);
        Check.range("shut(0, ?)", is -> x.shut(0, is), 0, 1, -2);
        Check.range("shut(?, 0)", leak -> x.shut(leak, 0), 0, 1, -2);
        int[] is = {1, 1, 0, 0, 1, 0};
        int[] was = {0, 1, 1, 0, 0, 1};
        for (int k = 0; k < is.length; k++) {
            Check.due("shut(1, " + is[k] + ")", x.shut(1, is[k]), was[k]);
        }
        Check.due("shut(0, 0), no leak", new FiveCards().shut(0, 0), -2);
    }

    // "BAD."
    private static void shutRefusals() {
        Twins twins = Twins.usual();
        Check.due("shut(0, 2)", twins.asked.shut(0, 2), -2);
        Check.due("shut(1, -1)", twins.asked.shut(1, -1), -2);
        Check.due("shut(3, 1)", twins.asked.shut(3, 1), -2);
        Check.due("shut(-1, 0)", twins.asked.shut(-1, 0), -2);
        twins.areAlike("shut");
    }

    /** What a LEAK of a KIND, a NUMBER and SIGN 1 GIVES of a RUN of a PACK whose CARDS lie as at first. */
    private static void gives(int kind, int number, int cards, int due) {
        FiveCards x = new FiveCards();
        x.pack(cards);
        x.run(0, 0, 0);
        x.leak(kind, number, 1);
        Check.due("gives(0, 0), leak(" + kind + ", " + number + ", 1) of " + cards, x.gives(0, 0), due);
    }

    // "LEAK: NUMBER"; "no more than CARDS of the RUN"
    private static void givesOfALeak() {
        gives(0, 0, 33300, 0);
        gives(0, 8, 33300, 8);
        gives(0, 9, 33300, 9);
        gives(0, 10, 33300, 9);
        gives(0, 25, 55555, 25);
        gives(0, 24, 55555, 24);
    }

    // "SEEN: as a LEAK, twice"; "no more than CARDS of the RUN"
    private static void givesOfSeen() {
        gives(1, 0, 33300, 0);
        gives(1, 4, 33300, 8);
        gives(1, 5, 33300, 9);
        gives(1, 9, 33300, 9);
        gives(1, 12, 55555, 24);
        gives(1, 13, 55555, 25);
        gives(1, 25, 55555, 25);
    }

    // "HEARD: the lesser of a LEAK's and of how many CARDS of its SIGN the RUN has"
    private static void givesOfHeard() {
        gives(2, 0, 33300, 0);
        gives(2, 2, 33300, 2);
        gives(2, 3, 33300, 3);
        gives(2, 4, 33300, 3);
        gives(2, 25, 9000, 9);
        gives(2, 25, 90009, 0);
    }

    // "ORDERED: a LEAK's, and ALIKE by 5 (cut)"
    private static void givesOfOrdered() {
        gives(3, 0, 40000, 0);
        // ALIKE is 4, 5, 8 and 9, 10
        gives(3, 1, 50000, 1);
        gives(3, 1, 60000, 2);
        gives(3, 1, 90000, 2);
        gives(3, 1, 91000, 2);
        gives(3, 1, 82000, 2);
        gives(3, 1, 92000, 2);
        gives(3, 1, 93000, 3);
        gives(3, 0, 55555, 4);
        gives(3, 21, 55555, 25);
        gives(3, 22, 55555, 25);
        gives(3, 20, 55555, 24);
    }

    // "WRITTEN: a HEARD one's, and 1"
    private static void givesOfWritten() {
        gives(4, 0, 33300, 1);
        gives(4, 2, 33300, 3);
        gives(4, 3, 33300, 4);
        gives(4, 4, 33300, 4);
        gives(4, 7, 3, 1);
        // a HEARD one gives all CARDS, and one more is too many
        gives(4, 3, 3000, 3);
        gives(4, 2, 3000, 3);
        gives(4, 1, 3000, 2);
    }

    // "PUT: twice a WRITTEN one's"
    private static void givesOfPut() {
        gives(5, 0, 33300, 2);
        gives(5, 2, 33300, 6);
        gives(5, 3, 33300, 8);
        gives(5, 4, 33300, 8);
        gives(5, 4, 34100, 8);
        gives(5, 4, 4100, 5);
        gives(5, 0, 1, 1);
        gives(5, 0, 2, 2);
        gives(5, 0, 3, 2);
        gives(5, 1, 5000, 4);
        gives(5, 2, 5000, 5);
    }

    // "0, if it is SHUT"
    private static void givesNothingIfShut() {
        for (int kind = 0; kind < 6; kind++) {
            FiveCards x = Check.with(93000, 1);
            x.leak(kind, 4, 0);
            int open = x.gives(0, 0);
            Check.holds("gives(0, 0) of kind " + kind + " is above 0", open > 0);
            x.shut(0, 1);
            Check.due("gives(0, 0) of kind " + kind + ", shut", x.gives(0, 0), 0);
            Check.due("told(0, 8), kind " + kind + ", shut", x.told(0, 8), 0);
            x.shut(0, 0);
            Check.due("gives(0, 0) of kind " + kind + ", open again", x.gives(0, 0), open);
        }
    }

    // "BAD."
    private static void givesRefusals() {
        FiveCards x = Check.with(55555, 2);
        x.leak(0, 3, 0);
        x.leak(0, 4, 0);
        x.leak(0, 5, 0);
        Check.range("gives(?, 0)", leak -> x.gives(leak, 0), 0, 2, -2);
        Check.range("gives(0, ?)", run -> x.gives(0, run), 0, 1, -2);
        FiveCards none = new FiveCards();
        none.leak(0, 3, 0);
        Check.due("gives(0, 0), no run", none.gives(0, 0), -2);
        Check.due("gives(0, 0), no leak", Check.with(1, 1).gives(0, 0), -2);
        Twins twins = Twins.usual();
        Check.due("gives(3, 0)", twins.asked.gives(3, 0), -2);
        Check.due("gives(0, 4)", twins.asked.gives(0, 4), -2);
        twins.asked.gives(0, 0);
        twins.areAlike("gives");
    }

    // "LEAK 1; SEEN 2; HEARD as a LEAK; ORDERED 3 more than a LEAK; WRITTEN 1 more than a HEARD one; PUT 2 more .."
    private static void countsOfEachKind() {
        int[] due = {1, 2, 1, 4, 2, 4};
        for (int kind = 0; kind < 6; kind++) {
            FiveCards x = new FiveCards();
            x.leak(kind, 0, 0);
            x.leak(kind, 25, 4);
            Check.due("counts(0) of kind " + kind + ", number 0", x.counts(0), due[kind]);
            Check.due("counts(1) of kind " + kind + ", number 25", x.counts(1), due[kind]);
        }
    }

    // "BAD."
    private static void countsRefusals() {
        FiveCards x = new FiveCards();
        Check.due("counts(0), no leak", x.counts(0), -2);
        x.leak(0, 0, 0);
        x.leak(1, 0, 0);
        Check.range("counts(?)", x::counts, 0, 1, -2);
        Twins twins = Twins.usual();
        Check.due("counts(3)", twins.asked.counts(3), -2);
        Check.due("counts(-1)", twins.asked.counts(-1), -2);
        twins.areAlike("counts");
    }

    // "HOURS (1 .. 50)"
    private static void screenHours() {
        FiveCards x = new FiveCards();
        x.leak(0, 0, 0);
        x.leak(1, 0, 0);
        Check.range("screen(?, 1 or 2)", hours -> x.screen(hours, hours > 1 ? 2 : 1), 1, 50, -2);
        Check.due("plan(1, 1), an hour", x.plan(1, 1), 1);
        Check.due("plan(2, 1), 50 hours", x.plan(2, 1), 50);
        Check.due("count(3), none more", x.count(3), 2);
    }

    // "KINDS (bits of 6)"
    private static void screenKinds() {
        FiveCards x = new FiveCards();
        for (int kind = 0; kind < 6; kind++) {
            x.leak(kind, 0, 0);
        }
        Check.range("screen(1, ?)", kinds -> x.screen(1, kinds), 0, 63, -2);
        Check.due("weighs(1), it shuts none", x.weighs(1), 14);
        Check.due("weighs(2), it shuts all", x.weighs(2), 0);
        Check.due("count(3), none more", x.count(3), 2);
    }

    // "SCREENS (6 at most, numbered from 0)"
    private static void screensAreSixAtMost() {
        FiveCards x = new FiveCards();
        for (int k = 0; k < 6; k++) {
            Check.due("count(3)", x.count(3), k);
            Check.due("weighs of screen " + k + ", none such yet", x.weighs(1 << k), -2);
            Check.due("screen(50, " + k + ")", x.screen(50, k), k);
        }
        Check.due("screen(1, 1), the seventh", x.screen(1, 1), -4);
        Check.due("count(3)", x.count(3), 6);
        Check.due("weighs(63)", x.weighs(63), 0);
        Check.due("weighs(64)", x.weighs(64), -2);
    }

    // "BAD; FULL."
    private static void screenRefusals() {
        Twins twins = Twins.full();
        Check.due("screen(0, 1), full, too", twins.asked.screen(0, 1), -2);
        Check.due("screen(51, 1), full, too", twins.asked.screen(51, 1), -2);
        Check.due("screen(1, 64), full, too", twins.asked.screen(1, 64), -2);
        Check.due("screen(1, -1), full, too", twins.asked.screen(1, -1), -2);
        Check.due("screen(1, 1), full", twins.asked.screen(1, 1), -4);
        twins.areAlike("screen, full");
        twins = Twins.usual();
        Check.due("screen(0, 63)", twins.asked.screen(0, 63), -2);
        Check.due("screen(51, 63)", twins.asked.screen(51, 63), -2);
        Check.due("screen(1, 64)", twins.asked.screen(1, 64), -2);
        twins.areAlike("screen");
    }

    private static void planIs(FiveCards x, int leaks, int set, int hours) {
        Check.due("plan(" + leaks + ", 0)", x.plan(leaks, 0), set);
        Check.due("plan(" + leaks + ", 1)", x.plan(leaks, 1), hours);
    }

    // "A PLAN for LEAKS (bits)": for none of them no SCREEN is needed
    private static void planForNone() {
        FiveCards x = new FiveCards();
        planIs(x, 0, 0, 0);
        x.leak(0, 0, 0);
        planIs(x, 0, 0, 0);
        x.screen(1, 1);
        planIs(x, 0, 0, 0);
    }

    // "NONE"
    private static void planOfNone() {
        FiveCards x = new FiveCards();
        x.leak(0, 0, 0);
        x.leak(1, 0, 0);
        planIs(x, 1, -1, -1);
        x.screen(1, 60);
        planIs(x, 1, -1, -1);
        planIs(x, 2, -1, -1);
        x.screen(1, 1);
        planIs(x, 1, 2, 1);
        planIs(x, 2, -1, -1);
        planIs(x, 3, -1, -1);
        x.screen(1, 2);
        planIs(x, 3, 6, 2);
    }

    // "(by their KIND alone)"
    private static void planByKindAlone() {
        for (int kind = 0; kind < 6; kind++) {
            FiveCards x = new FiveCards();
            x.leak(kind, 0, 0);
            x.leak(kind, 25, 4);
            x.shut(0, 1);
            x.screen(1, 63 - (1 << kind));
            planIs(x, 1, -1, -1);
            planIs(x, 2, -1, -1);
            x.screen(3, 1 << kind);
            planIs(x, 1, 2, 3);
            planIs(x, 2, 2, 3);
            planIs(x, 3, 2, 3);
        }
    }

    // "with the fewest HOURS"
    private static void planWithTheFewestHours() {
        FiveCards x = new FiveCards();
        x.leak(0, 0, 0);
        x.leak(1, 0, 0);
        x.screen(10, 3);
        x.screen(5, 1);
        x.screen(4, 2);
        planIs(x, 3, 6, 9);
        FiveCards y = new FiveCards();
        y.leak(0, 0, 0);
        y.leak(1, 0, 0);
        y.screen(5, 1);
        y.screen(4, 2);
        y.screen(8, 3);
        planIs(y, 3, 4, 8);
        planIs(y, 1, 1, 5);
        planIs(y, 2, 2, 4);
    }

    // "of like ones the least as bits"
    private static void planOfLikeOnesTheLeast() {
        FiveCards x = new FiveCards();
        x.leak(0, 0, 0);
        x.leak(1, 0, 0);
        x.screen(5, 1);
        x.screen(5, 2);
        x.screen(10, 3);
        planIs(x, 3, 3, 10);
        x.screen(5, 1);
        planIs(x, 1, 1, 5);
        FiveCards y = new FiveCards();
        y.leak(0, 0, 0);
        y.leak(1, 0, 0);
        y.screen(9, 3);
        y.screen(4, 1);
        y.screen(5, 2);
        planIs(y, 3, 1, 9);
    }

    private static void planOfAllScreens() {
        FiveCards x = new FiveCards();
        for (int kind = 0; kind < 6; kind++) {
            x.leak(kind, 0, 0);
            x.screen(50, 1 << kind);
        }
        for (int k = 6; k < 10; k++) {
            x.leak(5, 0, 0);
        }
        planIs(x, 1023, 63, 300);
        planIs(x, 512, 32, 50);
        planIs(x, 31, 31, 250);
    }

    // "LEAKS (bits)"; "the SCREENS (what 0), HOURS (1). BAD"
    private static void planBits() {
        FiveCards x = new FiveCards();
        x.screen(1, 63);
        Check.range("plan(?, 0), no leak", leaks -> x.plan(leaks, 0), 0, 0, -2);
        x.leak(0, 0, 0);
        Check.range("plan(?, 0), one leak", leaks -> x.plan(leaks, 0), 0, 1, -2);
        x.leak(0, 0, 0);
        Check.range("plan(?, 0), two leaks", leaks -> x.plan(leaks, 0), 0, 3, -2);
        Check.range("plan(0, ?)", what -> x.plan(0, what), 0, 1, -2);
        for (int k = 2; k < 10; k++) {
            x.leak(0, 0, 0);
        }
        Check.range("plan(?, 1), ten leaks", leaks -> x.plan(leaks, 1), 0, 1023, -2);
    }

    // "BAD; NONE."
    private static void planRefusals() {
        Twins twins = Twins.usual();
        Check.due("plan(8, 0)", twins.asked.plan(8, 0), -2);
        Check.due("plan(-1, 1)", twins.asked.plan(-1, 1), -2);
        Check.due("plan(1, 2)", twins.asked.plan(1, 2), -2);
        Check.due("plan(1, -1)", twins.asked.plan(1, -1), -2);
        twins.areAlike("plan");
        FiveCards x = new FiveCards();
        x.leak(0, 0, 0);
        Check.due("plan(1, 2), none shuts it, too", x.plan(1, 2), -2);
    }

    // "COUNTS of all LEAKS that a set of SCREENS does not shut, together"
    private static void weighsOfNone() {
        FiveCards x = new FiveCards();
        Check.due("weighs(0), no leak", x.weighs(0), 0);
        x.screen(1, 0);
        Check.due("weighs(1), no leak", x.weighs(1), 0);
        x.leak(3, 0, 0);
        Check.due("weighs(1), it shuts none", x.weighs(1), 4);
        x.screen(1, 8);
        Check.due("weighs(0)", x.weighs(0), 4);
        Check.due("weighs(2), it shuts the only one", x.weighs(2), 0);
        Check.due("weighs(3)", x.weighs(3), 0);
    }

    private static void weighsOfAll() {
        FiveCards x = new FiveCards();
        for (int k = 0; k < 10; k++) {
            x.leak(5, 0, 0);
        }
        Check.due("weighs(0), ten of 4", x.weighs(0), 40);
        for (int k = 0; k < 6; k++) {
            x.screen(1, 63 - (1 << k));
        }
        Check.due("weighs(32), it shuts all but these", x.weighs(32), 40);
        Check.due("weighs(63)", x.weighs(63), 0);
        x.shut(0, 1);
        Check.due("weighs(0), by screens alone", x.weighs(0), 40);
    }

    // "WEIGHS. BAD."
    private static void weighsBits() {
        FiveCards x = new FiveCards();
        Check.range("weighs(?), no screen", x::weighs, 0, 0, -2);
        x.screen(1, 1);
        Check.range("weighs(?), one screen", x::weighs, 0, 1, -2);
        for (int k = 1; k < 6; k++) {
            x.screen(1, 1);
        }
        Check.range("weighs(?), six screens", x::weighs, 0, 63, -2);
    }

    private static void weighsRefusals() {
        Twins twins = Twins.usual();
        Check.due("weighs(4)", twins.asked.weighs(4), -2);
        Check.due("weighs(-1)", twins.asked.weighs(-1), -2);
        twins.asked.weighs(3);
        twins.areAlike("weighs");
    }
}
