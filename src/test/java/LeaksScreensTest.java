/** Promises 11 to 17: leaks, screens. */
public final class LeaksScreensTest {
    private static final int LEAST = Integer.MIN_VALUE;
    private static final int MOST = Integer.MAX_VALUE;

    public static void main(String[] args) {
        leak();
        shut();
        givesByKind();
        givesByAlike();
        givesNoMoreThanCards();
        counts();
        screen();
        plan();
        planOfLikeOnes();
        weighs();
        Check.end();
    }

    private static void leak() {
        FiveCards x = new FiveCards();
        for (int bad : new int[] {-1, 26, LEAST, MOST}) {
            Check.due("leak(" + bad + ", 0, 0)", x.leak(bad, 0, 0), -2);
            Check.due("leak(0, " + bad + ", 0)", x.leak(0, bad, 0), -2);
            Check.due("leak(0, 0, " + bad + ")", x.leak(0, 0, bad), -2);
        }
        Check.due("leak(6, 0, 0)", x.leak(6, 0, 0), -2);
        Check.due("leak(0, 0, 5)", x.leak(0, 0, 5), -2);
        Check.due("leak(5, 25, 4)", x.leak(5, 25, 4), 0);
        for (int k = 1; k < 10; k++) {
            Check.due("leak(0, 0, 0)", x.leak(0, 0, 0), k);
        }
        Check.due("leak(6, 0, 0), none more has room", x.leak(6, 0, 0), -2);
        Check.due("leak(0, 0, 0), none more has room", x.leak(0, 0, 0), -4);
        Check.due("count(2)", x.count(2), 10);
    }

    private static void shut() {
        FiveCards x = Check.with(55, 1);
        x.leak(0, 3, 0);
        x.leak(0, 2, 0);
        Check.due("shut(0, 0), open at first", x.shut(0, 0), 0);
        Check.due("shut(0, 1)", x.shut(0, 1), 0);
        Check.due("gives(0, 0)", x.gives(0, 0), 0);
        Check.due("gives(1, 0)", x.gives(1, 0), 2);
        for (int bad : new int[] {-1, 2, LEAST, MOST}) {
            Check.due("shut(" + bad + ", 0)", x.shut(bad, 0), -2);
            Check.due("shut(0, " + bad + ")", x.shut(0, bad), -2);
        }
        Check.due("shut(0, 1)", x.shut(0, 1), 1);
        Check.due("shut(0, 0)", x.shut(0, 0), 1);
        Check.due("gives(0, 0)", x.gives(0, 0), 3);
    }

    private static void givesByKind() {
        FiveCards x = Check.with(92310, 1);
        int[] due = {3, 6, 2, 5, 3, 6};
        for (int kind = 0; kind < 6; kind++) {
            x.leak(kind, 3, 1);
            Check.due("gives(" + kind + ", 0)", x.gives(kind, 0), due[kind]);
        }
        // 0 x 9, 1 x 2, 2 x 3, 3: ALIKE is 11, a fifth of it 2
        Check.due("told(0, 7)", x.told(0, 7), 11);
        x.leak(2, 1, 1);
        x.leak(5, 1, 4);
        Check.due("gives(6, 0), fewer than its cards", x.gives(6, 0), 1);
        Check.due("gives(7, 0), no card of its sign", x.gives(7, 0), 2);
        for (int bad : new int[] {-1, 8, LEAST, MOST}) {
            Check.due("gives(" + bad + ", 0)", x.gives(bad, 0), -2);
            Check.due("gives(0, " + bad + ")", x.gives(0, bad), -2);
        }
        Check.due("gives(0, 1)", x.gives(0, 1), -2);
    }

    private static void givesByAlike() {
        FiveCards x = Check.with(92200, 1);
        x.leak(3, 3, 1);
        Check.due("told(0, 7)", x.told(0, 7), 10);
        Check.due("gives(0, 0), a fifth of 10", x.gives(0, 0), 5);
        x.cut(0, 4);
        Check.due("told(0, 7)", x.told(0, 7), 9);
        Check.due("gives(0, 0), a fifth of 9, cut", x.gives(0, 0), 4);
    }

    private static void givesNoMoreThanCards() {
        FiveCards x = Check.with(30000, 1);
        for (int kind = 0; kind < 6; kind++) {
            x.leak(kind, 25, 0);
            Check.due("gives(" + kind + ", 0), no more than cards", x.gives(kind, 0), 3);
            Check.due("shut(" + kind + ", 1)", x.shut(kind, 1), 0);
            Check.due("gives(" + kind + ", 0), shut", x.gives(kind, 0), 0);
        }
        FiveCards y = Check.with(2, 1);
        y.leak(1, 1, 0);
        y.leak(5, 0, 0);
        Check.due("gives(0, 0), as many as cards", y.gives(0, 0), 2);
        Check.due("gives(1, 0), as many as cards", y.gives(1, 0), 2);
    }

    private static void counts() {
        FiveCards x = new FiveCards();
        Check.due("counts(0), no leak", x.counts(0), -2);
        int[] due = {1, 2, 1, 4, 2, 4};
        for (int kind = 0; kind < 6; kind++) {
            x.leak(kind, 9, 0);
            Check.due("counts(" + kind + ")", x.counts(kind), due[kind]);
            x.shut(kind, 1);
            Check.due("counts(" + kind + "), shut", x.counts(kind), due[kind]);
        }
        for (int bad : new int[] {-1, 6, LEAST, MOST}) {
            Check.due("counts(" + bad + ")", x.counts(bad), -2);
        }
    }

    private static void screen() {
        FiveCards x = new FiveCards();
        for (int bad : new int[] {-1, 64, LEAST, MOST}) {
            Check.due("screen(" + bad + ", 0)", x.screen(bad, 0), -2);
            Check.due("screen(1, " + bad + ")", x.screen(1, bad), -2);
        }
        Check.due("screen(0, 1)", x.screen(0, 1), -2);
        Check.due("screen(51, 1)", x.screen(51, 1), -2);
        Check.due("screen(1, 0)", x.screen(1, 0), 0);
        Check.due("screen(50, 63)", x.screen(50, 63), 1);
        for (int k = 2; k < 6; k++) {
            Check.due("screen(5, 1)", x.screen(5, 1), k);
        }
        Check.due("screen(0, 1), none more has room", x.screen(0, 1), -2);
        Check.due("screen(5, 1), none more has room", x.screen(5, 1), -4);
        Check.due("count(3)", x.count(3), 6);
    }

    private static void plan() {
        FiveCards x = new FiveCards();
        Check.due("plan(0, 0), nothing there", x.plan(0, 0), 0);
        Check.due("plan(0, 1), nothing there", x.plan(0, 1), 0);
        Check.due("plan(1, 0), no leak", x.plan(1, 0), -2);
        x.leak(0, 1, 0);
        x.leak(3, 1, 0);
        x.leak(0, 5, 0);
        Check.due("plan(1, 0), no screen", x.plan(1, 0), -1);
        Check.due("plan(1, 1), no screen", x.plan(1, 1), -1);
        x.screen(3, 1);
        x.screen(20, 9);
        x.screen(16, 8);
        Check.due("plan(1, 0)", x.plan(1, 0), 1);
        Check.due("plan(5, 0), both of one kind", x.plan(5, 0), 1);
        Check.due("plan(2, 0)", x.plan(2, 0), 4);
        Check.due("plan(2, 1)", x.plan(2, 1), 16);
        Check.due("plan(7, 0)", x.plan(7, 0), 5);
        Check.due("plan(7, 1)", x.plan(7, 1), 19);
        x.shut(1, 1);
        Check.due("plan(7, 0), by kind alone", x.plan(7, 0), 5);
        for (int bad : new int[] {-1, 8, LEAST, MOST}) {
            Check.due("plan(" + bad + ", 0)", x.plan(bad, 0), -2);
            Check.due("plan(0, " + bad + ")", x.plan(0, bad), -2);
        }
        Check.due("plan(0, 2)", x.plan(0, 2), -2);
        x.leak(1, 0, 0);
        Check.due("plan(8, 0), a kind that none shuts", x.plan(8, 0), -1);
        Check.due("plan(8, 1), a kind that none shuts", x.plan(8, 1), -1);
    }

    private static void planOfLikeOnes() {
        FiveCards x = new FiveCards();
        x.leak(4, 0, 0);
        x.leak(5, 0, 0);
        x.screen(4, 48);
        x.screen(2, 16);
        x.screen(2, 32);
        Check.due("plan(3, 0), 1 and 6 cost alike", x.plan(3, 0), 1);
        Check.due("plan(3, 1)", x.plan(3, 1), 4);
        x.screen(2, 16);
        Check.due("plan(1, 0), 2 and 8 cost alike", x.plan(1, 0), 2);
        x.screen(3, 63);
        Check.due("plan(3, 0), a cheaper one", x.plan(3, 0), 16);
        FiveCards y = new FiveCards();
        y.leak(4, 0, 0);
        y.screen(1, 12);
        Check.due("plan(1, 0), kinds above do not shut those under", y.plan(1, 0), -1);
    }

    private static void weighs() {
        FiveCards x = new FiveCards();
        Check.due("weighs(0), nothing there", x.weighs(0), 0);
        Check.due("weighs(1), no screen", x.weighs(1), -2);
        for (int kind = 0; kind < 6; kind++) {
            x.leak(kind, 0, 0);
        }
        x.leak(3, 0, 0);
        Check.due("weighs(0)", x.weighs(0), 18);
        x.screen(1, 8);
        x.screen(1, 34);
        Check.due("weighs(0)", x.weighs(0), 18);
        Check.due("weighs(1)", x.weighs(1), 10);
        Check.due("weighs(2)", x.weighs(2), 12);
        Check.due("weighs(3)", x.weighs(3), 4);
        x.shut(3, 1);
        Check.due("weighs(0), shut by call", x.weighs(0), 18);
        for (int bad : new int[] {-1, 4, LEAST, MOST}) {
            Check.due("weighs(" + bad + ")", x.weighs(bad), -2);
        }
    }
}
