/** Promises 25 to 27 at their edges: each sentence that names one has a test; the sentence stands ahead of it. */
public final class EdgesImageCountTest {
    public static void main(String[] args) {
        noImageAtFirst();
        noImageChangesNothing();
        imageOfNothing();
        imageOfAll();
        imageChangesNothing();
        backToCards();
        backToGuesses();
        backToSlips();
        backToLeaks();
        backToTheRule();
        runsThatCameSince();
        leaksThatCameSince();
        backKeepsNothingElse();
        backMoreThanOnce();
        imageInPlaceOfTheLast();
        imageOfOneObject();
        countsAtFirst();
        countsWhenFull();
        countHits();
        countRefusals();
        Check.end();
    }

    // "STATE: there is none."
    private static void noImageAtFirst() {
        FiveCards x = new FiveCards();
        Check.due("back(), nothing there", x.back(), -3);
        Check.due("back(), again", x.back(), -3);
        Check.due("image()", x.image(), 0);
        Check.due("back()", x.back(), 0);
    }

    private static FiveCards withoutImage() {
        FiveCards x = Check.with(11111, 3);
        x.leak(0, 1, 0);
        x.shut(0, 1);
        x.cut(1, 2);
        x.slip(2, 0, 4);
        x.force(Check.read(x, "stop 0;keep 0;say 0;"));
        return x;
    }

    private static void noImageChangesNothing() {
        Twins twins = new Twins(EdgesImageCountTest::withoutImage);
        Check.due("back(), none", twins.asked.back(), -3);
        twins.areAlike("back");
    }

    // "AN IMAGE is kept: how many RUNS."
    private static void imageOfNothing() {
        FiveCards x = new FiveCards();
        Check.due("image(), no runs", x.image(), 0);
        x.pack(11111);
        Check.due("image(), a pack and no runs", x.image(), 0);
        x.run(0, 0, 0);
        x.cut(0, 1);
        Check.due("back()", x.back(), 1);
        Check.rowIs(x, 0, 0, "12340");
        Check.due("image(), one run", x.image(), 1);
    }

    private static void imageOfAll() {
        FiveCards x = Check.with(11111, 16);
        for (int k = 0; k < 10; k++) {
            x.leak(0, 1, 0);
        }
        Check.due("image(), 16 runs", x.image(), 16);
        for (int k = 0; k < 16; k++) {
            x.cut(k, 1 + k % 4);
            x.slip(k, k % 5, 4);
        }
        for (int k = 0; k < 10; k++) {
            x.shut(k, 1);
        }
        Check.due("back()", x.back(), 16);
        for (int k = 0; k < 16; k++) {
            Check.rowIs(x, k, 0, "01234");
            Check.rowIs(x, k, 1, "00000");
            Check.due("told(" + k + ", 10)", x.told(k, 10), 0);
        }
        for (int k = 0; k < 10; k++) {
            Check.due("shut(" + k + ", 0)", x.shut(k, 0), 0);
        }
    }

    // what was kept ahead of it is another one, all else stays
    private static void imageChangesNothing() {
        FiveCards x = Check.with(11111, 2);
        x.cut(0, 2);
        x.slip(1, 0, 3);
        Check.due("image()", x.image(), 2);
        Check.rowIs(x, 0, 0, "23401");
        Check.rowIs(x, 1, 1, "30000");
        Check.due("told(1, 10)", x.told(1, 10), 1);
        Check.due("told(1, 11)", x.told(1, 11), -1);
        Check.due("back(), at once", x.back(), 2);
        Check.rowIs(x, 0, 0, "23401");
        Check.rowIs(x, 1, 1, "30000");
        Check.due("told(1, 10)", x.told(1, 10), 1);
        Check.due("told(1, 11)", x.told(1, 11), -1);
    }

    // "AN IMAGE keeps CARDS"
    private static void backToCards() {
        FiveCards x = Check.with(11111, 2);
        x.cut(0, 3);
        x.image();
        x.shuffle(0, 9);
        x.cut(1, 1);
        x.back();
        Check.rowIs(x, 0, 0, "34012");
        Check.rowIs(x, 1, 0, "01234");
    }

    // ".. and GUESSES of all RUNS"
    private static void backToGuesses() {
        FiveCards x = Check.with(11111, 2);
        Check.guesses(x, 0, 4, 3, 2);
        x.image();
        Check.guesses(x, 0, 1, 1, 1, 1, 1);
        Check.guesses(x, 1, 2);
        x.slip(0, 0, 0);
        x.back();
        Check.rowIs(x, 0, 1, "43200");
        Check.rowIs(x, 1, 1, "00000");
    }

    // ".. SLIPS": how many, and what was PUT IN by them
    private static void backToSlips() {
        FiveCards x = Check.with(11111, 2);
        x.slip(0, 1, 1);
        x.slip(0, 2, 4);
        x.image();
        x.slip(0, 3, 3);
        x.slip(0, 4, 4);
        x.slip(1, 0, 1);
        Check.due("told(0, 10)", x.told(0, 10), 4);
        Check.due("told(0, 11)", x.told(0, 11), 3);
        Check.due("told(1, 11)", x.told(1, 11), -1);
        x.back();
        Check.due("told(0, 10)", x.told(0, 10), 2);
        Check.due("told(0, 11)", x.told(0, 11), 1);
        Check.due("told(1, 10)", x.told(1, 10), 0);
        Check.due("told(1, 11)", x.told(1, 11), 0);
        x.slip(0, 3, 3);
        Check.due("told(0, 10), they go on from there", x.told(0, 10), 3);
        Check.due("told(0, 11), they go on from there", x.told(0, 11), 2);
    }

    // ".. which LEAKS are SHUT"
    private static void backToLeaks() {
        FiveCards x = Check.with(11111, 1);
        for (int k = 0; k < 4; k++) {
            x.leak(0, 1, 0);
            x.shut(k, k % 2);
        }
        x.image();
        x.shut(0, 1);
        x.shut(1, 0);
        Check.due("told(0, 8)", x.told(0, 8), 2);
        x.back();
        for (int k = 0; k < 4; k++) {
            Check.due("gives(" + k + ", 0)", x.gives(k, 0), 1 - k % 2);
            Check.due("shut(" + k + ", 0)", x.shut(k, 0), k % 2);
        }
    }

    // ".. THE RULE"
    private static void backToTheRule() {
        FiveCards x = Check.with(1, 1);
        Check.read(x, "stop 0;keep 0;say 1;");
        Check.read(x, "stop 0;keep 0;say 2;");
        x.image();
        x.force(2);
        x.back();
        Check.due("count(6)", x.count(6), 0);
        Check.due("told(0, 13)", x.told(0, 13), -5);
        x.force(1);
        x.image();
        x.force(0);
        Check.read(x, "stop 0;keep 0;say 3;");
        x.force(3);
        x.back();
        Check.due("count(6)", x.count(6), 1);
        Check.due("told(0, 13)", x.told(0, 13), 1);
        Check.due("force(3), texts that came since are there", x.force(3), 1);
    }

    // "(RUNS and LEAKS that came since stay as they are)"
    private static void runsThatCameSince() {
        FiveCards x = Check.with(11111, 1);
        x.image();
        x.run(0, 5, 50);
        x.cut(0, 1);
        x.cut(1, 2);
        x.slip(1, 0, 2);
        Check.due("back(), one came since", x.back(), 2);
        Check.rowIs(x, 0, 0, "01234");
        Check.rowIs(x, 1, 0, "23401");
        Check.rowIs(x, 1, 1, "20000");
        Check.due("told(1, 10)", x.told(1, 10), 1);
        Check.due("told(1, 11)", x.told(1, 11), 1);
        Check.due("told(1, 1)", x.told(1, 1), 5);
        Check.due("told(1, 2)", x.told(1, 2), 50);
        for (int k = 2; k < 16; k++) {
            x.run(0, 0, 0);
        }
        Check.due("back(), all that may be came since", x.back(), 16);
        x.run(0, 0, 0);
        Check.due("back(), one had no room", x.back(), 16);
    }

    private static void leaksThatCameSince() {
        FiveCards x = Check.with(11111, 1);
        x.leak(0, 1, 0);
        x.image();
        for (int k = 1; k < 10; k++) {
            x.leak(0, 1, 0);
            x.shut(k, k % 2);
        }
        x.shut(0, 1);
        Check.due("back()", x.back(), 1);
        Check.due("count(2)", x.count(2), 10);
        Check.due("shut(0, 0), as it was", x.shut(0, 0), 0);
        for (int k = 1; k < 10; k++) {
            Check.due("shut(" + k + ", 0), as it is", x.shut(k, 0), k % 2);
        }
    }

    // PACKS, SCREENS, TEXTS, THE TAPE and SHEETS are not among what it keeps
    private static void backKeepsNothingElse() {
        FiveCards x = Check.with(11111, 1);
        x.sheet(0, 0, 2);
        Check.feed(x, "stop 0;");
        x.image();
        x.pack(1);
        x.screen(1, 1);
        Check.feed(x, "keep 0;say 6;");
        x.cell(0, 1, 4);
        x.sheet(1, 1, 1);
        Check.due("back()", x.back(), 1);
        Check.due("count(0)", x.count(0), 2);
        Check.due("count(3)", x.count(3), 1);
        Check.due("count(5)", x.count(5), 20);
        Check.due("text()", x.text(), 1);
        Check.due("back(), the text stays", x.back(), 1);
        Check.due("count(4)", x.count(4), 2);
        Check.due("guess(0, 0, 0), the sheet stays", x.guess(0, 0, 0), 2);
        Check.rowIs(x, 0, 1, "04000");
        Check.due("cell(1, 0, 0), the sheet stays", x.cell(1, 0, 0), 1);
    }

    private static void backMoreThanOnce() {
        FiveCards x = Check.with(11111, 1);
        x.cut(0, 1);
        x.image();
        for (int k = 0; k < 5; k++) {
            x.cut(0, k);
            x.slip(0, k, 4);
            Check.due("back()", x.back(), 1);
            Check.rowIs(x, 0, 0, "12340");
            Check.rowIs(x, 0, 1, "00000");
            Check.due("told(0, 10)", x.told(0, 10), 0);
        }
        Check.due("back(), with nothing between", x.back(), 1);
    }

    // there is one IMAGE: the last that was kept
    private static void imageInPlaceOfTheLast() {
        FiveCards x = Check.with(11111, 1);
        x.leak(0, 1, 0);
        x.image();
        x.cut(0, 1);
        x.shut(0, 1);
        x.slip(0, 0, 1);
        x.run(0, 0, 1);
        Check.due("image()", x.image(), 2);
        x.cut(0, 1);
        x.cut(1, 4);
        x.shut(0, 0);
        Check.due("back()", x.back(), 2);
        Check.rowIs(x, 0, 0, "12340");
        Check.rowIs(x, 0, 1, "10000");
        Check.rowIs(x, 1, 0, "01234");
        Check.due("told(0, 10)", x.told(0, 10), 1);
        Check.due("shut(0, 0)", x.shut(0, 0), 1);
    }

    private static void imageOfOneObject() {
        FiveCards x = Check.with(11111, 1);
        FiveCards y = Check.with(11111, 1);
        x.image();
        Check.due("back() of another object", y.back(), -3);
    }

    // "4 TEXTS" has TEXT 0 with them; all else is none
    private static void countsAtFirst() {
        FiveCards x = new FiveCards();
        for (int what = 0; what < 8; what++) {
            Check.due("count(" + what + ")", x.count(what), what == 4 ? 1 : 0);
        }
    }

    private static void countsWhenFull() {
        FiveCards x = Twins.full().asked;
        int[] due = {4, 16, 10, 6, 6, 160, 4};
        for (int what = 0; what < due.length; what++) {
            Check.due("count(" + what + "), full", x.count(what), due[what]);
        }
    }

    // "7 HITS of all RUNS"
    private static void countHits() {
        FiveCards x = Check.with(55555, 16);
        Check.due("count(7), 16 times 5", x.count(7), 80);
        x.slip(0, 0, 1);
        Check.due("count(7), one less", x.count(7), 79);
        x.slip(15, 24, 4);
        Check.due("count(7), one more", x.count(7), 80);
        FiveCards most = Check.with(90000, 0);
        for (int k = 0; k < 16; k++) {
            most.run(0, k % 8, k);
            Check.due("count(7)", most.count(7), 9 * k + 9);
        }
        Check.due("count(7), no hits", Check.with(1, 3).count(7), 0);
    }

    // "BAD."
    private static void countRefusals() {
        FiveCards x = Check.with(1, 1);
        Check.range("count(?)", x::count, 0, 7, -2);
        Twins twins = Twins.usual();
        Check.due("count(8)", twins.asked.count(8), -2);
        Check.due("count(-1)", twins.asked.count(-1), -2);
        twins.areAlike("count");
    }
}
