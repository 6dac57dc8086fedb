/** Promises 28 to 32: the host. */
public final class HostTest {
    private static final int LEAST = Integer.MIN_VALUE;
    private static final int MOST = Integer.MAX_VALUE;

    public static void main(String[] args) {
        sheet();
        sheetIsNew();
        cell();
        cellsAreNarrow();
        copy();
        copyOverItself();
        copyRefusals();
        runs();
        runsRefusals();
        runsTillOutside();
        taken();
        Check.end();
    }

    /** A SHEET's items, that are SIGNS, as they come to GUESSES. */
    private static void signsAre(FiveCards x, int sheet, String signs) {
        Check.due("guess(0, " + sheet + ", 0)", x.guess(0, sheet, 0), signs.length());
        for (int i = 0; i < signs.length(); i++) {
            Check.due("at(0, " + i + ", 1)", x.at(0, i, 1), signs.charAt(i) - '0');
        }
    }

    private static void sheet() {
        FiveCards x = new FiveCards();
        for (int k = 0; k < 4; k++) {
            Check.due("cell(" + k + ", 0, 0), missing at first", x.cell(k, 0, 0), -11);
        }
        for (int bad : new int[] {-2, 4, LEAST, MOST}) {
            Check.due("sheet(" + bad + ", 0, 1)", x.sheet(bad, 0, 1), -2);
            Check.due("sheet(0, " + bad + ", 1)", x.sheet(0, bad, 1), -2);
        }
        Check.due("sheet(-1, 0, 1)", x.sheet(-1, 0, 1), -2);
        Check.due("sheet(0, 3, 1)", x.sheet(0, 3, 1), -2);
        Check.due("sheet(0, 0, 41)", x.sheet(0, 0, 41), -2);
        Check.due("sheet(0, 0, -1)", x.sheet(0, 0, -1), -14);
        Check.due("sheet(0, 3, -1)", x.sheet(0, 3, -1), -2);
        Check.due("sheet(4, 0, -1)", x.sheet(4, 0, -1), -2);
        Check.due("sheet(0, 0, MOST)", x.sheet(0, 0, MOST), -2);
        Check.due("sheet(0, 0, LEAST)", x.sheet(0, 0, LEAST), -14);
        Check.due("cell(0, 0, 0), missing still", x.cell(0, 0, 0), -11);
        Check.due("sheet(0, 0, 0)", x.sheet(0, 0, 0), 1);
        Check.due("cell(0, 0, 0), none has room", x.cell(0, 0, 0), -12);
        Check.due("sheet(3, 2, 40)", x.sheet(3, 2, 40), 1);
        Check.due("cell(3, 39, 0)", x.cell(3, 39, 0), 1);
        for (int n : new int[] {0, -1, 41, LEAST, MOST}) {
            Check.due("sheet(3, -1, " + n + ")", x.sheet(3, -1, n), 1);
            Check.due("cell(3, 0, 0)", x.cell(3, 0, 0), -11);
        }
        Check.due("sheet(-1, -1, 0)", x.sheet(-1, -1, 0), -2);
    }

    private static void sheetIsNew() {
        FiveCards x = Check.with(11100, 1);
        for (int sort = 0; sort < 3; sort++) {
            Check.due("sheet(0, sort, 3)", x.sheet(0, sort, 3), 1);
            for (int i = 0; i < 3; i++) {
                x.cell(0, i, 3);
            }
            signsAre(x, 0, "333");
            Check.due("sheet(0, sort, 3), all 0 again", x.sheet(0, sort, 3), 1);
            signsAre(x, 0, "000");
            x.cell(0, 0, 4);
            Check.due("sheet(0, sort, 41), refused", x.sheet(0, sort, 41), -2);
            Check.due("sheet(0, sort, -1), refused", x.sheet(0, sort, -1), -14);
            signsAre(x, 0, "400");
        }
    }

    private static void cell() {
        FiveCards x = Check.with(11100, 1);
        for (int bad : new int[] {-1, 4, LEAST, MOST}) {
            Check.due("cell(" + bad + ", 0, 0)", x.cell(bad, 0, 0), -2);
        }
        Check.due("cell(0, -1, 0), missing", x.cell(0, -1, 0), -11);
        x.sheet(0, 0, 3);
        for (int bad : new int[] {-1, 3, 40, LEAST, MOST}) {
            Check.due("cell(0, " + bad + ", 0)", x.cell(0, bad, 0), -12);
        }
        Check.due("cell(0, 0, 1)", x.cell(0, 0, 1), 1);
        Check.due("cell(0, 2, 3)", x.cell(0, 2, 3), 1);
        signsAre(x, 0, "103");
    }

    private static void cellsAreNarrow() {
        FiveCards x = Check.with(11100, 1);
        x.sheet(0, 0, 3);
        x.cell(0, 0, 256 + 1);
        x.cell(0, 1, -256 + 2);
        x.cell(0, 2, 65536 + 3);
        signsAre(x, 0, "123");
        x.sheet(0, 1, 3);
        x.cell(0, 0, 65536 + 4);
        x.cell(0, 1, -65536 + 3);
        x.cell(0, 2, 256 + 1);
        signsAre(x, 0, "43");
        x.sheet(0, 2, 3);
        x.cell(0, 0, 4);
        x.cell(0, 1, 65536);
        signsAre(x, 0, "4");
    }

    private static void copy() {
        FiveCards x = Check.with(22222, 1);
        for (int sort = 0; sort < 3; sort++) {
            x.sheet(0, sort, 5);
            x.sheet(1, sort, 4);
            for (int i = 0; i < 5; i++) {
                x.cell(0, i, i);
            }
            Check.due("copy(0, 1, 1, 0, 3)", x.copy(0, 1, 1, 0, 3), 3);
            signsAre(x, 1, "1230");
            Check.due("copy(0, 4, 1, 3, 1)", x.copy(0, 4, 1, 3, 1), 1);
            signsAre(x, 1, "1234");
            Check.due("copy(0, 5, 1, 4, 0)", x.copy(0, 5, 1, 4, 0), 0);
            signsAre(x, 0, "01234");
        }
    }

    private static void copyOverItself() {
        FiveCards x = Check.with(22222, 1);
        x.sheet(2, 1, 5);
        for (int i = 0; i < 5; i++) {
            x.cell(2, i, i);
        }
        Check.due("copy(2, 0, 2, 1, 4), as they were", x.copy(2, 0, 2, 1, 4), 4);
        signsAre(x, 2, "00123");
        Check.due("copy(2, 2, 2, 0, 3), as they were", x.copy(2, 2, 2, 0, 3), 3);
        signsAre(x, 2, "12323");
    }

    private static void copyRefusals() {
        FiveCards x = Check.with(22222, 1);
        x.sheet(0, 0, 3);
        x.sheet(1, 1, 3);
        x.sheet(2, 0, 2);
        x.cell(0, 0, 4);
        for (int bad : new int[] {-1, 4, LEAST, MOST}) {
            Check.due("copy(" + bad + ", 0, 0, 0, 0)", x.copy(bad, 0, 0, 0, 0), -2);
            Check.due("copy(3, 0, " + bad + ", 0, 0)", x.copy(3, 0, bad, 0, 0), -2);
            Check.due("copy(0, " + bad + ", 2, 0, 1)", x.copy(0, bad, 2, 0, 1), -12);
            Check.due("copy(0, 0, 2, " + bad + ", 1)", x.copy(0, 0, 2, bad, 1), -12);
            Check.due("copy(0, 0, 2, 0, " + bad + ")", x.copy(0, 0, 2, 0, bad), -12);
        }
        Check.due("copy(3, 9, 0, 0, 0), missing", x.copy(3, 9, 0, 0, 0), -11);
        Check.due("copy(0, 9, 3, 0, 0), missing", x.copy(0, 9, 3, 0, 0), -11);
        Check.due("copy(0, 9, 1, 0, -1), unlike", x.copy(0, 9, 1, 0, -1), -13);
        Check.due("copy(0, 1, 2, 0, 3), the one ends", x.copy(0, 1, 2, 0, 3), -12);
        Check.due("copy(0, 0, 2, 0, 3), the other ends", x.copy(0, 0, 2, 0, 3), -12);
        Check.due("copy(0, 0, 2, 1, 2), the other ends", x.copy(0, 0, 2, 1, 2), -12);
        Check.due("copy(0, 4, 2, 0, 0)", x.copy(0, 4, 2, 0, 0), -12);
        Check.due("copy(0, 0, 2, 3, 0)", x.copy(0, 0, 2, 3, 0), -12);
        signsAre(x, 2, "00");
    }

    private static FiveCards withTriples(int sort, int... numbers) {
        FiveCards x = new FiveCards();
        x.pack(12);
        x.pack(11111);
        x.sheet(0, sort, numbers.length);
        for (int i = 0; i < numbers.length; i++) {
            x.cell(0, i, numbers[i]);
        }
        return x;
    }

    private static void runs() {
        for (int sort = 0; sort < 3; sort++) {
            FiveCards x = withTriples(sort, 9, 1, 7, 99, 2, 0, 0, 0, 8, 0, 0, 0, 100, 0, 0, 1);
            Check.due("runs(0, sort, 1, 5), others are left out", x.runs(0, sort, 1, 5), 2);
            Check.due("count(1)", x.count(1), 2);
            Check.due("told(0, 0)", x.told(0, 0), 1);
            Check.due("told(0, 1)", x.told(0, 1), 7);
            Check.due("told(0, 2)", x.told(0, 2), 99);
            Check.due("told(1, 0)", x.told(1, 0), 0);
            Check.due("told(1, 2)", x.told(1, 2), 1);
            Check.due("runs(0, sort, 0, 0)", x.runs(0, sort, 0, 0), 0);
            Check.due("runs(0, sort, 13, 1)", x.runs(0, sort, 13, 1), 1);
        }
        FiveCards x = new FiveCards();
        x.pack(1);
        x.sheet(0, 0, 40);
        Check.due("runs(0, 0, 0, 12)", x.runs(0, 0, 0, 12), 12);
        Check.due("runs(0, 0, 0, 12), none more has room", x.runs(0, 0, 0, 12), 4);
        Check.due("count(1)", x.count(1), 16);
        Check.due("runs(0, 0, 0, 12), none more has room", x.runs(0, 0, 0, 12), 0);
        FiveCards narrow = withTriples(0, 255, 0, 0, 0, 255, 0, 0, 0, 200, 256, 256, 356);
        Check.due("runs(0, 0, 0, 4), lowest 8 bits", narrow.runs(0, 0, 0, 4), 0);
        FiveCards lowest = withTriples(0, 257, 256, 99 + 256);
        Check.due("runs(0, 0, 0, 1), lowest 8 bits", lowest.runs(0, 0, 0, 1), 1);
        Check.due("told(0, 2)", lowest.told(0, 2), 99);
    }

    private static void runsRefusals() {
        FiveCards x = withTriples(1, 0, 0, 0);
        for (int bad : new int[] {-1, 13, LEAST, MOST}) {
            Check.due("runs(" + bad + ", 1, 0, 1)", x.runs(bad, 1, 0, 1), -2);
            Check.due("runs(0, " + bad + ", 0, 1)", x.runs(0, bad, 0, 1), -2);
            Check.due("runs(0, 1, 0, " + bad + ")", x.runs(0, 1, 0, bad), -2);
        }
        Check.due("runs(4, 1, 0, 1)", x.runs(4, 1, 0, 1), -2);
        Check.due("runs(0, 3, 0, 1)", x.runs(0, 3, 0, 1), -2);
        Check.due("runs(0, 0, 0, 0), not bytes", x.runs(0, 0, 0, 0), -13);
        Check.due("runs(0, 2, 9, 1), not ints", x.runs(0, 2, 9, 1), -13);
        for (int sort = 0; sort < 3; sort++) {
            Check.due("runs(1, sort, 0, 0), missing", x.runs(1, sort, 0, 0), -11);
            Check.due("runs(1, sort, -1, 1), missing", x.runs(1, sort, -1, 1), -11);
        }
        Check.due("count(1)", x.count(1), 0);
    }

    private static void runsTillOutside() {
        FiveCards x = withTriples(2, 0, 0, 0, 0, 0, 1, 0, 0);
        Check.due("runs(0, 2, 0, 3), what stood ahead came", x.runs(0, 2, 0, 3), -12);
        Check.due("count(1)", x.count(1), 2);
        for (int from : new int[] {-1, -3, 6, 8, LEAST, MOST, MOST - 1, MOST - 3}) {
            Check.due("runs(0, 2, " + from + ", 2)", x.runs(0, 2, from, 2), -12);
        }
        Check.due("count(1)", x.count(1), 2);
        Check.due("runs(0, 2, 5, 1), the last three", x.runs(0, 2, 5, 1), 1);
        Check.due("runs(0, 2, 99, 0), none is looked at", x.runs(0, 2, 99, 0), 0);
    }

    private static void taken() {
        FiveCards x = new FiveCards();
        Check.due("taken(0, 0), no leak", x.taken(0, 0), -11);
        Check.due("taken(0, 6), no leak", x.taken(0, 6), -2);
        String[] under = {"0", "01", "02", "03", "024", "0245"};
        for (int kind = 0; kind < 6; kind++) {
            x.leak(kind, 10 + kind, 0);
            x.shut(kind, kind % 2);
            for (int k = 0; k < 6; k++) {
                int due = under[kind].indexOf('0' + k) >= 0 ? 10 + kind : -13;
                Check.due("taken(" + kind + ", " + k + ")", x.taken(kind, k), due);
            }
        }
        for (int bad : new int[] {-1, 6, LEAST, MOST}) {
            Check.due("taken(0, " + bad + ")", x.taken(0, bad), -2);
            Check.due("taken(" + bad + ", 0)", x.taken(bad, 0), -11);
        }
    }
}
