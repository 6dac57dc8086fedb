/** Promises 28 to 32 at their edges: each sentence that names one has a test; the sentence stands ahead of it. */
public final class EdgesHostTest {
    private static final int LEAST = Integer.MIN_VALUE;
    private static final int MOST = Integer.MAX_VALUE;

    public static void main(String[] args) {
        missingAtFirst();
        sheetSheets();
        sheetSorts();
        sheetSizes();
        sheetOfNone();
        sheetMissingAgain();
        sheetAllZero();
        sheetRefusals();
        cellPlaces();
        cellOfBytes();
        cellOfShorts();
        cellOfInts();
        cellRefusals();
        copyPlaces();
        copyOfNone();
        copyBelowZero();
        copyFarOutside();
        copyAsTheyWere();
        copyRefusals();
        runsSorts();
        runsHowMany();
        runsOthersAreLeftOut();
        runsWhenFull();
        runsPlaces();
        runsWhatStoodAheadCame();
        runsRefusals();
        takenKinds();
        takenUnderThatOne();
        takenRefusals();
        Check.end();
    }

    private static FiveCards withRow(FiveCards x, int sheet, int sort, int... items) {
        Check.due("sheet(" + sheet + ", " + sort + ", n)", x.sheet(sheet, sort, items.length), 1);
        for (int i = 0; i < items.length; i++) {
            Check.due("cell(" + sheet + ", " + i + ", v)", x.cell(sheet, i, items[i]), 1);
        }
        return x;
    }

    /** A SHEET's items, that are SIGNS, as they come to GUESSES of RUN 0. */
    private static void signsAre(FiveCards x, int sheet, String signs) {
        Check.due("guess(0, " + sheet + ", 0)", x.guess(0, sheet, 0), signs.length());
        for (int i = 0; i < signs.length(); i++) {
            Check.due("item " + i + " of sheet " + sheet, x.at(0, i, 1), signs.charAt(i) - '0');
        }
    }

    /** An item as the DAY of a new RUN by it; -1 if it is none. */
    private static int day(FiveCards x, int sheet, int sort, int from) {
        int run = x.count(1);
        return x.runs(sheet, sort, from, 1) == 1 ? x.told(run, 2) : -1;
    }

    // "SHEETS 0 .. 3 are rows of numbers, or missing (as all are at first)"
    private static void missingAtFirst() {
        FiveCards x = Check.with(1, 1);
        for (int k = 0; k < 4; k++) {
            Check.due("cell(" + k + ", 0, 0)", x.cell(k, 0, 0), -11);
            Check.due("guess(0, " + k + ", 0)", x.guess(0, k, 0), -11);
            Check.due("copy(" + k + ", 0, " + k + ", 0, 0)", x.copy(k, 0, k, 0, 0), -11);
            Check.due("runs(" + k + ", 0, 0, 0)", x.runs(k, 0, 0, 0), -11);
        }
    }

    // "SHEETS 0 .. 3"
    private static void sheetSheets() {
        FiveCards x = Check.with(1, 1);
        Check.range("sheet(?, 0, 1)", sheet -> x.sheet(sheet, 0, 1), 0, 3, -2);
        Check.due("cell(1, 0, 0), missing still", x.cell(1, 0, 0), -11);
        Check.due("cell(0, 0, 0)", x.cell(0, 0, 0), 1);
        Check.due("cell(3, 0, 0)", x.cell(3, 0, 0), 1);
    }

    // "of sort 0 bytes, 1 shorts, 2 ints"; "or missing (sort -1 ..)"
    private static void sheetSorts() {
        FiveCards x = new FiveCards();
        Check.range("sheet(0, ?, 1)", sort -> x.sheet(0, sort, 1), -1, 2, -2);
        for (int sort = 0; sort < 3; sort++) {
            x.sheet(0, sort, 1);
            for (int asked = 0; asked < 3; asked++) {
                Check.due("runs(0, " + asked + ", 0, 0), sort " + sort, x.runs(0, asked, 0, 0), asked == sort ? 0 : -13);
            }
        }
    }

    // "n above 40; -14": a size below 0
    private static void sheetSizes() {
        FiveCards x = new FiveCards();
        for (int sort = 0; sort < 3; sort++) {
            Check.due("sheet(0, sort, 0)", x.sheet(0, sort, 0), 1);
            Check.due("sheet(0, sort, 40)", x.sheet(0, sort, 40), 1);
            Check.due("cell(0, 39, 1)", x.cell(0, 39, 1), 1);
            Check.due("cell(0, 40, 1)", x.cell(0, 40, 1), -12);
            for (int above : new int[] {41, 42, MOST - 1, MOST}) {
                Check.due("sheet(0, sort, " + above + ")", x.sheet(0, sort, above), -2);
            }
            for (int below : new int[] {-1, -2, -41, LEAST, LEAST + 1}) {
                Check.due("sheet(0, sort, " + below + ")", x.sheet(0, sort, below), -14);
            }
            Check.due("cell(0, 39, 1), as it was", x.cell(0, 39, 1), 1);
        }
    }

    // a row of 0 numbers is not missing
    private static void sheetOfNone() {
        FiveCards x = Check.with(1, 1);
        for (int sort = 0; sort < 3; sort++) {
            x.sheet(0, sort, 0);
            x.sheet(1, sort, 0);
            Check.due("cell(0, 0, 0)", x.cell(0, 0, 0), -12);
            Check.due("guess(0, 0, 0)", x.guess(0, 0, 0), 0);
            Check.due("copy(0, 0, 1, 0, 0)", x.copy(0, 0, 1, 0, 0), 0);
            Check.due("copy(0, 0, 1, 0, 1)", x.copy(0, 0, 1, 0, 1), -12);
            Check.due("runs(0, sort, 0, 0)", x.runs(0, sort, 0, 0), 0);
            Check.due("runs(0, sort, 0, 1)", x.runs(0, sort, 0, 1), -12);
        }
    }

    // "or missing (sort -1: n does not matter)"
    private static void sheetMissingAgain() {
        FiveCards x = new FiveCards();
        for (int n : new int[] {0, 1, 40, 41, -1, LEAST, MOST}) {
            x.sheet(2, 1, 3);
            Check.due("cell(2, 0, 1)", x.cell(2, 0, 1), 1);
            Check.due("sheet(2, -1, " + n + ")", x.sheet(2, -1, n), 1);
            Check.due("cell(2, 0, 1), missing", x.cell(2, 0, 1), -11);
            Check.due("sheet(2, -1, " + n + "), missing by now", x.sheet(2, -1, n), 1);
        }
        Check.due("sheet(4, -1, 0)", x.sheet(4, -1, 0), -2);
        Check.due("sheet(-1, -1, 0)", x.sheet(-1, -1, 0), -2);
    }

    // "all 0"
    private static void sheetAllZero() {
        FiveCards x = Check.with(11111, 1);
        for (int sort = 0; sort < 3; sort++) {
            withRow(x, 0, sort, 1, 2, 3, 4, 1);
            signsAre(x, 0, "12341");
            x.sheet(0, sort, 5);
            signsAre(x, 0, "00000");
            withRow(x, 0, sort, 4, 4, 4, 4, 4);
            x.sheet(0, sort, 2);
            x.sheet(0, sort, 5);
            signsAre(x, 0, "00000");
            withRow(x, 0, sort, 4, 4, 4, 4, 4);
            x.sheet(0, -1, 0);
            x.sheet(0, sort, 5);
            signsAre(x, 0, "00000");
        }
    }

    // "BAD: no such SHEET, sort; n above 40; -14."
    private static void sheetRefusals() {
        Twins twins = Twins.usual();
        FiveCards x = twins.asked;
        Check.due("sheet(4, 3, -1)", x.sheet(4, 3, -1), -2);
        Check.due("sheet(4, 0, -1), no such sheet and below 0", x.sheet(4, 0, -1), -2);
        Check.due("sheet(-1, 0, -1), no such sheet and below 0", x.sheet(-1, 0, -1), -2);
        Check.due("sheet(0, 3, -1), no such sort and below 0", x.sheet(0, 3, -1), -2);
        Check.due("sheet(0, -2, -1), no such sort and below 0", x.sheet(0, -2, -1), -2);
        Check.due("sheet(0, 3, 3)", x.sheet(0, 3, 3), -2);
        Check.due("sheet(1, 0, 41)", x.sheet(1, 0, 41), -2);
        Check.due("sheet(2, 2, -1)", x.sheet(2, 2, -1), -14);
        Check.due("sheet(3, 0, -1)", x.sheet(3, 0, -1), -14);
        Check.due("sheet(3, 0, 41)", x.sheet(3, 0, 41), -2);
        twins.areAlike("sheet");
    }

    // "Item i of a SHEET"
    private static void cellPlaces() {
        FiveCards x = Check.with(11111, 1);
        for (int size = 1; size <= 40; size += 13) {
            x.sheet(0, 0, size);
            Check.range("cell(0, ?, 1) of " + size, i -> x.cell(0, i, 1), 0, size - 1, -12);
        }
        x.sheet(0, 2, 5);
        x.cell(0, 0, 4);
        x.cell(0, 4, 3);
        signsAre(x, 0, "40003");
        Check.range("cell(?, 0, 0)", sheet -> x.cell(sheet, 0, 0), 0, 3, -2);
    }

    // "(of bytes .. its lowest 8 .. bits)"
    private static void cellOfBytes() {
        int[] values = {256, -256, 257, 260, -252, 65536 + 3, LEAST, LEAST + 2, MOST - 255 + 4, 512 + 1};
        int[] signs = {0, 0, 1, 4, 4, 3, 0, 2, 4, 1};
        FiveCards x = Check.with(55, 1);
        for (int k = 0; k < values.length; k++) {
            withRow(x, 0, 0, values[k]);
            Check.due("guess(0, 0, " + k + ") by " + values[k], x.guess(0, 0, k), 1);
            Check.due("at(0, " + k + ", 1)", x.at(0, k, 1), signs[k]);
        }
        for (int bad : new int[] {127, 128, 255, -1, 5, 261, -251, MOST, 65535}) {
            withRow(x, 0, 0, bad);
            Check.due("guess(0, 0, 0) by " + bad, x.guess(0, 0, 0), 0);
        }
        // as a DAY: 99 is one, 355 is 99 by its lowest bits, 200 is below 0
        FiveCards y = Check.with(1, 0);
        Check.due("day by 99", day(withRow(y, 0, 0, 0, 0, 99), 0, 0, 0), 99);
        Check.due("day by 355", day(withRow(y, 0, 0, 0, 0, 355), 0, 0, 0), 99);
        Check.due("day by 356", day(withRow(y, 0, 0, 0, 0, 356), 0, 0, 0), -1);
        Check.due("day by 200", day(withRow(y, 0, 0, 0, 0, 200), 0, 0, 0), -1);
    }

    // "(of .. shorts its lowest .. 16 bits)"
    private static void cellOfShorts() {
        int[] values = {65536, -65536, 65537, 65540, -65532, LEAST, LEAST + 2, 131072 + 3};
        int[] signs = {0, 0, 1, 4, 4, 0, 2, 3};
        FiveCards x = Check.with(55, 1);
        for (int k = 0; k < values.length; k++) {
            withRow(x, 0, 1, values[k]);
            Check.due("guess(0, 0, " + k + ") by " + values[k], x.guess(0, 0, k), 1);
            Check.due("at(0, " + k + ", 1)", x.at(0, k, 1), signs[k]);
        }
        for (int bad : new int[] {256, 257, -256, 32767, 32768, 65535, 65541, MOST, -1, 5}) {
            withRow(x, 0, 1, bad);
            Check.due("guess(0, 0, 0) by " + bad, x.guess(0, 0, 0), 0);
        }
    }

    // ints are as they are
    private static void cellOfInts() {
        FiveCards x = Check.with(55, 1);
        for (int bad : new int[] {256, 65536, -65536, 65537, LEAST, MOST, 131072 + 3, -1, 5}) {
            withRow(x, 0, 2, bad);
            Check.due("guess(0, 0, 0) by " + bad, x.guess(0, 0, 0), 0);
        }
        for (int sign = 0; sign < 5; sign++) {
            withRow(x, 0, 2, sign);
            Check.due("guess(0, 0, " + sign + ")", x.guess(0, 0, sign), 1);
        }
        Check.rowIs(x, 0, 1, "0123400000");
    }

    // "BAD: no such SHEET; -11; -12."
    private static void cellRefusals() {
        Twins twins = Twins.usual();
        FiveCards x = twins.asked;
        Check.due("cell(4, -1, 9), no such sheet and outside", x.cell(4, -1, 9), -2);
        Check.due("cell(-1, 0, 9)", x.cell(-1, 0, 9), -2);
        Check.due("cell(3, -1, 9), missing and outside", x.cell(3, -1, 9), -11);
        Check.due("cell(3, 0, 9), missing", x.cell(3, 0, 9), -11);
        Check.due("cell(0, 6, 9)", x.cell(0, 6, 9), -12);
        Check.due("cell(1, 3, 9)", x.cell(1, 3, 9), -12);
        Check.due("cell(2, -1, 9)", x.cell(2, -1, 9), -12);
        twins.areAlike("cell");
    }

    private static FiveCards withTwoRows(int sort) {
        FiveCards x = Check.with(11111, 1);
        withRow(x, 0, sort, 0, 1, 2, 3, 4);
        withRow(x, 1, sort, 4, 4, 4);
        return x;
    }

    // "n numbers of a SHEET, from item i on, come to another one's item j on"
    private static void copyPlaces() {
        for (int sort = 0; sort < 3; sort++) {
            FiveCards x = withTwoRows(sort);
            Check.due("copy(0, 0, 1, 0, 3), all of it", x.copy(0, 0, 1, 0, 3), 3);
            signsAre(x, 1, "012");
            Check.due("copy(0, 2, 1, 0, 3), till the end", x.copy(0, 2, 1, 0, 3), 3);
            signsAre(x, 1, "234");
            Check.due("copy(0, 0, 1, 2, 1), to the last", x.copy(0, 0, 1, 2, 1), 1);
            signsAre(x, 1, "230");
            Check.due("copy(0, 4, 1, 1, 1), of the last", x.copy(0, 4, 1, 1, 1), 1);
            signsAre(x, 1, "240");
            Check.due("copy(0, 3, 1, 0, 3), the one ends", x.copy(0, 3, 1, 0, 3), -12);
            Check.due("copy(0, 0, 1, 1, 3), the other ends", x.copy(0, 0, 1, 1, 3), -12);
            Check.due("copy(0, 0, 1, 0, 4), the other ends", x.copy(0, 0, 1, 0, 4), -12);
            Check.due("copy(1, 0, 0, 0, 4), the one ends", x.copy(1, 0, 0, 0, 4), -12);
            Check.due("copy(0, -1, 1, 0, 1)", x.copy(0, -1, 1, 0, 1), -12);
            Check.due("copy(0, 0, 1, -1, 1)", x.copy(0, 0, 1, -1, 1), -12);
            Check.due("copy(0, 5, 1, 0, 1)", x.copy(0, 5, 1, 0, 1), -12);
            Check.due("copy(0, 0, 1, 3, 1)", x.copy(0, 0, 1, 3, 1), -12);
            signsAre(x, 1, "240");
            signsAre(x, 0, "01234");
        }
        FiveCards widest = Check.with(55555, 1);
        widest.sheet(0, 0, 40);
        widest.sheet(1, 0, 40);
        Check.due("copy(0, 0, 1, 0, 40)", widest.copy(0, 0, 1, 0, 40), 40);
        Check.due("copy(0, 0, 1, 0, 41)", widest.copy(0, 0, 1, 0, 41), -12);
        Check.due("copy(0, 1, 1, 0, 40)", widest.copy(0, 1, 1, 0, 40), -12);
        Check.due("copy(0, 0, 1, 1, 40)", widest.copy(0, 0, 1, 1, 40), -12);
    }

    // n is 0: nothing comes, from any place up to the end
    private static void copyOfNone() {
        FiveCards x = withTwoRows(0);
        Check.due("copy(0, 0, 1, 0, 0)", x.copy(0, 0, 1, 0, 0), 0);
        Check.due("copy(0, 5, 1, 3, 0), at the ends", x.copy(0, 5, 1, 3, 0), 0);
        Check.due("copy(0, 6, 1, 0, 0)", x.copy(0, 6, 1, 0, 0), -12);
        Check.due("copy(0, 0, 1, 4, 0)", x.copy(0, 0, 1, 4, 0), -12);
        Check.due("copy(0, -1, 1, 0, 0)", x.copy(0, -1, 1, 0, 0), -12);
        Check.due("copy(0, 0, 1, -1, 0)", x.copy(0, 0, 1, -1, 0), -12);
        signsAre(x, 1, "444");
    }

    // "-12 (also with n below 0)"
    private static void copyBelowZero() {
        FiveCards x = withTwoRows(0);
        for (int n : new int[] {-1, -2, LEAST, LEAST + 1}) {
            Check.due("copy(0, 2, 1, 2, " + n + ")", x.copy(0, 2, 1, 2, n), -12);
            Check.due("copy(0, 2, 0, 1, " + n + ")", x.copy(0, 2, 0, 1, n), -12);
        }
        signsAre(x, 1, "444");
        signsAre(x, 0, "01234");
    }

    // places whose sum wraps around are outside all the same
    private static void copyFarOutside() {
        FiveCards x = withTwoRows(2);
        for (int far : new int[] {MOST, MOST - 1, MOST - 2, LEAST, LEAST + 1}) {
            Check.due("copy(0, " + far + ", 1, 0, 1)", x.copy(0, far, 1, 0, 1), -12);
            Check.due("copy(0, 0, 1, " + far + ", 1)", x.copy(0, 0, 1, far, 1), -12);
            Check.due("copy(0, 0, 1, 0, " + far + ")", x.copy(0, 0, 1, 0, far), -12);
            Check.due("copy(0, 1, 1, 1, " + far + ")", x.copy(0, 1, 1, 1, far), -12);
            Check.due("copy(0, " + far + ", 1, " + far + ", 0)", x.copy(0, far, 1, far, 0), -12);
            Check.due("copy(0, " + far + ", 1, " + far + ", " + far + ")", x.copy(0, far, 1, far, far), -12);
        }
        signsAre(x, 1, "444");
    }

    // "(as they were)": of one SHEET to itself
    private static void copyAsTheyWere() {
        String[] toTheRight = {"01234", "00123", "01012", "01201", "01230"};
        String[] toTheLeft = {"01234", "12344", "23434", "34234", "41234"};
        for (int k = 0; k < 5; k++) {
            FiveCards right = withTwoRows(1);
            Check.due("copy(0, 0, 0, " + k + ", " + (5 - k) + ")", right.copy(0, 0, 0, k, 5 - k), 5 - k);
            signsAre(right, 0, toTheRight[k]);
            FiveCards left = withTwoRows(1);
            Check.due("copy(0, " + k + ", 0, 0, " + (5 - k) + ")", left.copy(0, k, 0, 0, 5 - k), 5 - k);
            signsAre(left, 0, toTheLeft[k]);
        }
    }

    // "BAD: no such SHEET; -11; -13: they are of unlike sorts; -12"
    private static void copyRefusals() {
        Twins twins = Twins.usual();
        FiveCards x = twins.asked;
        Check.due("copy(4, 0, 3, 0, 1), no such sheet and missing", x.copy(4, 0, 3, 0, 1), -2);
        Check.due("copy(3, 0, 4, 0, 1), no such sheet and missing", x.copy(3, 0, 4, 0, 1), -2);
        Check.due("copy(-1, 0, 0, 0, 1)", x.copy(-1, 0, 0, 0, 1), -2);
        Check.due("copy(0, 0, -1, 0, 1)", x.copy(0, 0, -1, 0, 1), -2);
        Check.due("copy(3, -1, 0, 0, 1), missing and outside", x.copy(3, -1, 0, 0, 1), -11);
        Check.due("copy(0, 0, 3, 0, -1), missing and below 0", x.copy(0, 0, 3, 0, -1), -11);
        Check.due("copy(3, 0, 3, 0, 0), missing", x.copy(3, 0, 3, 0, 0), -11);
        Check.due("copy(0, -1, 1, 0, 1), unlike and outside", x.copy(0, -1, 1, 0, 1), -13);
        Check.due("copy(1, 0, 2, 0, -1), unlike and below 0", x.copy(1, 0, 2, 0, -1), -13);
        Check.due("copy(2, 0, 0, 0, 0), unlike and none", x.copy(2, 0, 0, 0, 0), -13);
        Check.due("copy(0, 0, 0, 4, 3)", x.copy(0, 0, 0, 4, 3), -12);
        Check.due("copy(0, 0, 0, 1, -1)", x.copy(0, 0, 0, 1, -1), -12);
        twins.areAlike("copy");
    }

    // "RUNS by a SHEET that is taken for one of a sort"; "-13"
    private static void runsSorts() {
        for (int sort = 0; sort < 3; sort++) {
            FiveCards x = Check.with(1, 0);
            withRow(x, 0, sort, 0, 7, 99);
            Check.range("runs(0, ?, 0, 1), sort " + sort, asked -> x.runs(0, asked, 0, 1), 0, 2, -2);
            for (int asked = 0; asked < 3; asked++) {
                Check.due("runs(0, " + asked + ", 0, 1), sort " + sort, x.runs(0, asked, 0, 1), asked == sort ? 1 : -13);
            }
            Check.due("told(0, 1)", x.told(0, 1), 7);
            Check.due("told(0, 2)", x.told(0, 2), 99);
        }
    }

    // "n of them (0 .. 12)"
    private static void runsHowMany() {
        for (int n = 0; n <= 12; n++) {
            FiveCards x = Check.with(1, 0);
            x.sheet(0, 0, 3 * n);
            Check.due("runs(0, 0, 0, " + n + ")", x.runs(0, 0, 0, n), n);
            Check.due("count(1)", x.count(1), n);
        }
        FiveCards x = Check.with(1, 0);
        x.sheet(0, 0, 40);
        Check.range("runs(0, 0, 0, ?)", n -> x.runs(0, 0, 0, n), 0, 12, -2);
        Check.due("count(1)", x.count(1), 12);
        Check.range("runs(?, 0, 0, 0)", sheet -> x.runs(sheet, 0, 0, 0), 0, 3, -2);
    }

    // "(others are left out)": such as run() refuses
    private static void runsOthersAreLeftOut() {
        FiveCards x = Check.with(1, 0);
        x.pack(2);
        withRow(x, 0, 2, 0, 0, 100, 2, 0, 0, 0, 8, 0, -1, 0, 0, 1, 7, 99, 0, -1, 0, 0, 0, -1);
        Check.due("runs(0, 2, 0, 7)", x.runs(0, 2, 0, 7), 1);
        Check.due("count(1)", x.count(1), 1);
        Check.due("told(0, 0)", x.told(0, 0), 1);
        Check.due("told(0, 1)", x.told(0, 1), 7);
        Check.due("told(0, 2)", x.told(0, 2), 99);
        FiveCards none = new FiveCards();
        none.sheet(0, 0, 36);
        Check.due("runs(0, 0, 0, 12), no pack", none.runs(0, 0, 0, 12), 0);
    }

    private static void runsWhenFull() {
        FiveCards x = Check.with(1, 14);
        withRow(x, 0, 1, 0, 0, 1, 0, 8, 2, 0, 0, 3, 0, 0, 4, 0, 0, 5);
        Check.due("runs(0, 1, 0, 5), two have room", x.runs(0, 1, 0, 5), 2);
        Check.due("told(14, 2)", x.told(14, 2), 1);
        Check.due("told(15, 2)", x.told(15, 2), 3);
        Check.due("runs(0, 1, 0, 5), none has room", x.runs(0, 1, 0, 5), 0);
        Check.due("runs(0, 1, 0, 6), outside at last", x.runs(0, 1, 0, 6), -12);
        Check.due("count(1)", x.count(1), 16);
    }

    // "from one on, three by three"; "-12"
    private static void runsPlaces() {
        FiveCards x = Check.with(1, 0);
        withRow(x, 0, 0, 0, 0, 0, 5, 7);
        Check.range("runs(0, 0, ?, 1) of 5", from -> x.runs(0, 0, from, 1), 0, 2, -12);
        Check.due("count(1)", x.count(1), 2);
        Check.due("told(0, 1), from 0", x.told(0, 1), 0);
        Check.due("told(1, 1), from 2", x.told(1, 1), 5);
        Check.due("told(1, 2), from 2", x.told(1, 2), 7);
    }

    // "-12: what stood ahead came"
    private static void runsWhatStoodAheadCame() {
        for (int size = 6; size < 9; size++) {
            FiveCards x = Check.with(1, 0);
            x.sheet(0, 2, size);
            x.cell(0, 5, 9);
            Check.due("runs(0, 2, 0, 3) of " + size, x.runs(0, 2, 0, 3), -12);
            Check.due("count(1)", x.count(1), 2);
            Check.due("told(1, 2)", x.told(1, 2), 9);
            Check.due("runs(0, 2, 0, 12) of " + size, x.runs(0, 2, 0, 12), -12);
            Check.due("count(1)", x.count(1), 4);
            Check.due("runs(0, 2, 3, 2) of " + size, x.runs(0, 2, 3, 2), -12);
            Check.due("count(1)", x.count(1), 5);
        }
        FiveCards x = Check.with(1, 0);
        x.sheet(0, 2, 6);
        for (int from : new int[] {-1, -3, LEAST, LEAST + 1, MOST, MOST - 1, MOST - 2, MOST - 3}) {
            Check.due("runs(0, 2, " + from + ", 2), nothing stood ahead", x.runs(0, 2, from, 2), -12);
            Check.due("count(1)", x.count(1), 0);
        }
    }

    // "BAD: no such SHEET, sort, n; -13; -11; -12"
    private static void runsRefusals() {
        Twins twins = Twins.usual();
        FiveCards x = twins.asked;
        Check.due("runs(4, 0, 0, 1)", x.runs(4, 0, 0, 1), -2);
        Check.due("runs(3, 3, 0, 1), no such sort and missing", x.runs(3, 3, 0, 1), -2);
        Check.due("runs(3, -1, 0, 1), no such sort and missing", x.runs(3, -1, 0, 1), -2);
        Check.due("runs(3, 0, 0, 13), no such n and missing", x.runs(3, 0, 0, 13), -2);
        Check.due("runs(0, 1, 0, 13), no such n and unlike", x.runs(0, 1, 0, 13), -2);
        Check.due("runs(0, 1, 0, -1), no such n and unlike", x.runs(0, 1, 0, -1), -2);
        Check.due("runs(0, 1, 99, 1), unlike and outside", x.runs(0, 1, 99, 1), -13);
        Check.due("runs(2, 0, 0, 0), unlike and none", x.runs(2, 0, 0, 0), -13);
        Check.due("runs(3, 0, 99, 1), missing and outside", x.runs(3, 0, 99, 1), -11);
        Check.due("runs(3, 2, 0, 0), missing and none", x.runs(3, 2, 0, 0), -11);
        Check.due("runs(0, 0, 4, 1)", x.runs(0, 0, 4, 1), -12);
        Check.due("runs(0, 0, -1, 1)", x.runs(0, 0, -1, 1), -12);
        Check.due("runs(1, 1, 1, 1)", x.runs(1, 1, 1, 1), -12);
        twins.areAlike("runs");
    }

    // "taken for one of KIND k (0 .. 5)"
    private static void takenKinds() {
        for (int kind = 0; kind < 6; kind++) {
            FiveCards x = new FiveCards();
            x.leak(kind, 0, 0);
            x.leak(kind, 25, 4);
            Check.range("taken(0, ?) of kind " + kind, k -> x.taken(0, k), 0, 5, -2);
            Check.due("taken(0, " + kind + ")", x.taken(0, kind), 0);
            Check.due("taken(1, " + kind + ")", x.taken(1, kind), 25);
            Check.due("taken(1, 0), all are LEAKS", x.taken(1, 0), 25);
            x.shut(1, 1);
            Check.due("taken(1, 0), shut", x.taken(1, 0), 25);
        }
    }

    // "or one under that one (also by others between): its NUMBER"; "-13"
    private static void takenUnderThatOne() {
        String[] above = {"0", "01", "02", "03", "024", "0245"};
        FiveCards x = new FiveCards();
        for (int kind = 0; kind < 6; kind++) {
            x.leak(kind, kind + 1, 0);
            for (int k = 0; k < 6; k++) {
                Check.due("taken(" + kind + ", " + k + ")", x.taken(kind, k),
                    above[kind].indexOf('0' + k) >= 0 ? kind + 1 : -13);
            }
        }
    }

    // "BAD: k; -11: no such LEAK; -13."
    private static void takenRefusals() {
        Twins twins = Twins.usual();
        FiveCards x = twins.asked;
        Check.due("taken(3, 6), no such leak, too", x.taken(3, 6), -2);
        Check.due("taken(-1, -1), no such leak, too", x.taken(-1, -1), -2);
        Check.due("taken(0, 6)", x.taken(0, 6), -2);
        Check.due("taken(3, 0)", x.taken(3, 0), -11);
        Check.due("taken(-1, 5)", x.taken(-1, 5), -11);
        Check.due("taken(0, 5)", x.taken(0, 5), -13);
        Check.due("taken(1, 5)", x.taken(1, 5), -13);
        twins.areAlike("taken");
        FiveCards y = new FiveCards();
        y.leak(0, 3, 0);
        y.leak(0, 3, 0);
        Check.range("taken(?, 0)", leak -> y.taken(leak, 0), 0, 1, -11);
        Check.due("taken(0, 0), no leak", new FiveCards().taken(0, 0), -11);
    }
}
