/** Promises 18 to 20 at their edges: each sentence that names one has a test; the sentence stands ahead of it. */
public final class EdgesTextsTest {
    private static final String PLAIN = "stop 0;keep 0;say 0;";

    public static void main(String[] args) {
        feedBytes();
        feedLowestFirst();
        feedHighBytes();
        tapeBytes();
        feedRefusals();
        feedTillFull();
        textsAreSixAtMost();
        textIsFullAheadOfAll();
        tapeIsEmptyThen();
        textsLongest();
        tokensAsLongAsCanBe();
        blanksMayStand();
        blanksNeedNotStand();
        bytesThatBeginNone();
        bytesBehindAWord();
        bytesAtFirst();
        wordsNeitherKeyNorName();
        numbersOfFourDigits();
        endsTooEarly();
        nothingStandsBehind();
        partsInOrder();
        keysAreNoNames();
        oneComparison();
        notStandsAheadOfSums();
        Check.end();
    }

    // "n is not 1 .. 8"
    private static void feedBytes() {
        FiveCards x = new FiveCards();
        Check.range("feed(?, 0)", n -> x.feed(n, 0), 1, 8, -2);
        Check.due("count(5), by 1 and 8", x.count(5), 9);
        FiveCards y = new FiveCards();
        int size = 0;
        for (int n = 1; n <= 8; n++) {
            size += n;
            Check.due("feed(" + n + ", 0)", y.feed(n, 0), size);
        }
    }

    // "The n lowest bytes of a number, the lowest first"
    private static void feedLowestFirst() {
        for (int n = 1; n <= 8; n++) {
            FiveCards x = new FiveCards();
            // n blanks, and a byte that begins none in all that is left out
            long word = n == 8 ? 0x2020202020202020L : 0x2020202020202020L | -1L << 8 * n;
            Check.due("feed(" + n + ", blanks)", x.feed(n, word), n);
            Check.due("text() of " + n + " blanks", x.text(), -100 - n);
            // the highest of them begins none
            x.feed(n, 0x2020202020202020L ^ 1L << 8 * n - 8);
            Check.due("text() of " + (n - 1) + " blanks and !", x.text(), -100 - (n - 1));
        }
        FiveCards x = new FiveCards();
        x.feed(7, 0x003020706f7473L);
        Check.due("text() of 'stop 0' and a zero byte", x.text(), -106);
    }

    // bytes are 0 .. 255, also in a number below 0
    private static void feedHighBytes() {
        FiveCards x = new FiveCards();
        Check.due("feed(8, -1)", x.feed(8, -1L), 8);
        Check.due("text(), 255 begins none", x.text(), -100);
        x.feed(2, 0x8020L);
        Check.due("text(), 128 begins none", x.text(), -101);
        x.feed(8, Long.MIN_VALUE | 0x0020202020202020L);
        Check.due("text(), the eighth is 128", x.text(), -107);
        x.feed(1, -224L);
        Check.due("text(), the lowest byte of -224 is a blank", x.text(), -101);
    }

    // "THE TAPE (160 bytes at most)"
    private static void tapeBytes() {
        for (int n = 1; n <= 8; n++) {
            FiveCards x = new FiveCards();
            for (int k = 0; k < 19; k++) {
                x.feed(8, 0x2020202020202020L);
            }
            Check.due("feed(8 - " + n + ")", n == 8 ? 152 : x.feed(8 - n, 0x2020202020202020L), 160 - n);
            if (n < 8) {
                Check.due("feed(" + (n + 1) + "), one too many", x.feed(n + 1, 0x2020202020202020L), -4);
            }
            Check.due("count(5)", x.count(5), 160 - n);
            Check.due("feed(" + n + ")", x.feed(n, 0x2020202020202020L), 160);
            Check.due("feed(1), none more has room", x.feed(1, 32), -4);
            Check.due("count(5)", x.count(5), 160);
            Check.due("text(), the text's size", x.text(), -260);
        }
    }

    // "BAD: n is not 1 .. 8. FULL."
    private static void feedRefusals() {
        Twins twins = Twins.full();
        Check.due("feed(0, 32), full, too", twins.asked.feed(0, 32), -2);
        Check.due("feed(9, 32), full, too", twins.asked.feed(9, 32), -2);
        Check.due("feed(1, 32), full", twins.asked.feed(1, 32), -4);
        Check.due("feed(8, 32), full", twins.asked.feed(8, 32), -4);
        twins.areAlike("feed, full");
        twins = Twins.usual();
        Check.due("feed(0, 32)", twins.asked.feed(0, 32), -2);
        Check.due("feed(9, 32)", twins.asked.feed(9, 32), -2);
        Check.due("feed(-1, 32)", twins.asked.feed(-1, 32), -2);
        twins.areAlike("feed");
    }

    // what has no room leaves no byte of it
    private static void feedTillFull() {
        FiveCards x = Check.with(1, 1);
        StringBuilder text = new StringBuilder("stop 0;keep 0;say 7;");
        while (text.length() < 157) {
            text.append(' ');
        }
        Check.due("feed to 157", Check.feed(x, text.toString()), 157);
        Check.due("feed(4, 'stop')", x.feed(4, 0x706f7473L), -4);
        Check.due("count(5)", x.count(5), 157);
        Check.due("feed(2, blanks)", x.feed(2, 0x2020), 159);
        Check.due("text(), nothing of what was refused is there", x.text(), 1);
        Check.due("feed(8, ..), there is room again", x.feed(8, 0), 8);
    }

    // "There are 6 TEXTS at most, TEXT 0 with them."
    private static void textsAreSixAtMost() {
        FiveCards x = Check.with(1, 1);
        Check.due("count(4), TEXT 0", x.count(4), 1);
        for (int k = 1; k < 6; k++) {
            Check.due("force(" + k + "), no such text yet", x.force(k), -2);
            Check.due("text()", Check.read(x, "stop 0;keep 0;say " + k + ";"), k);
            Check.due("count(4)", x.count(4), k + 1);
        }
        Check.due("text(), the seventh", Check.read(x, PLAIN), -4);
        Check.due("count(4)", x.count(4), 6);
        Check.due("force(6)", x.force(6), -2);
        for (int k = 5; k > 0; k--) {
            x.force(k);
            Check.due("told(0, 13) by text " + k, x.told(0, 13), k);
        }
    }

    // "FULL (ahead of all): no TEXT more has room (THE TAPE stays)."
    private static void textIsFullAheadOfAll() {
        FiveCards x = new FiveCards();
        for (int k = 1; k < 6; k++) {
            Check.read(x, PLAIN);
        }
        Check.due("text(), ahead of a tape that is empty", x.text(), -4);
        Check.due("count(5)", x.count(5), 0);
        Check.feed(x, "? stop");
        Check.due("text(), ahead of a fault", x.text(), -4);
        Check.due("count(5), the tape stays", x.count(5), 6);
        Check.due("feed(1, 32), the tape stays", x.feed(1, 32), 7);
        Check.due("text(), again", x.text(), -4);
        Twins twins = Twins.full();
        Check.due("text(), full", twins.asked.text(), -4);
        twins.areAlike("text, full");
    }

    // "THE TAPE, which is empty then (by a FAULT, too)"
    private static void tapeIsEmptyThen() {
        FiveCards x = Check.with(1, 1);
        Check.due("text(), an empty tape", x.text(), -100);
        Check.due("text()", Check.read(x, PLAIN), 1);
        Check.due("count(5), empty then", x.count(5), 0);
        Check.due("text(), once more", x.text(), -100);
        Check.due("text(), a fault", Check.read(x, PLAIN + "?"), -120);
        Check.due("count(5), empty by a fault", x.count(5), 0);
        Check.due("count(4), a fault makes none", x.count(4), 2);
        Check.due("text(), once more", x.text(), -100);
        Check.due("text(), after a fault", Check.read(x, "stop 0;keep 0;say 9;"), 2);
        x.force(2);
        Check.due("told(0, 13)", x.told(0, 13), 9);
        Twins twins = Twins.usual();
        Check.due("count(6), a text is no rule by itself", twins.asked.count(6), 0);
    }

    private static String longest(String head, String more, String tail, int size) {
        StringBuilder text = new StringBuilder(head);
        while (text.length() + more.length() + tail.length() <= size) {
            text.append(more);
        }
        return text.append(tail).toString();
    }

    // a TEXT may be as long as THE TAPE
    private static void textsLongest() {
        FiveCards x = Check.with(1, 1);
        String ones = longest("stop 0;keep 0;say 0", "+1", ";", 160);
        Check.due("the size", ones.length(), 160);
        Check.due("text()", Check.read(x, ones), 1);
        x.force(1);
        Check.due("told(0, 13), 70 ones", x.told(0, 13), 70);
        String first = longest("stop 1", "+1", ";keep 2<3;say 4;", 160);
        Check.due("text()", Check.read(x, first), 2);
        x.force(2);
        Check.due("series(0, 0, 0)", x.series(0, 0, 0), 1);
        Check.due("told(0, 12)", x.told(0, 12), 1);
        Check.due("told(0, 13)", x.told(0, 13), 4);
        String second = longest("stop 0;keep 0", " or 0", " or 1;say 5;", 160);
        Check.due("text()", Check.read(x, second), 3);
        x.force(3);
        Check.due("told(0, 12)", x.told(0, 12), 1);
        Check.due("text(), the last byte", Check.read(x, longest("stop 0;keep 0;say 0", " ", "?", 160)), -259);
        Check.due("text(), it ends too early", Check.read(x, longest("stop 0;keep 0;say 0", "*1", " ", 160)), -260);
    }

    private static void faultAt(int place, String text) {
        FiveCards x = new FiveCards();
        Check.due("text() of " + text, Check.read(x, text), -100 - place);
        Check.due("count(4) after " + text, x.count(4), 1);
        Check.due("count(5) after " + text, x.count(5), 0);
    }

    private static void stands(String text) {
        Check.due("text() of " + text, Check.read(new FiveCards(), text), 1);
    }

    private static void says(String e, int due) {
        FiveCards x = Check.with(1, 1);
        Check.due("say " + e, Check.said(x, 0, e), due);
    }

    // "TOKENS, each as long as can be"
    private static void tokensAsLongAsCanBe() {
        faultAt(5, "stop hitsrun;keep 0;say 0;");
        faultAt(0, "stopnot 1;keep 0;say 0;");
        faultAt(5, "stop notnot 1;keep 0;say 0;");
        faultAt(7, "stop 1 oror 1;keep 0;say 0;");
        faultAt(5, "stop 11111;keep 0;say 0;");
        faultAt(9, "stop 1111a;keep 0;say 0;");
        faultAt(10, "stop 1111 1;keep 0;say 0;");
        says("1234", 1234);
        says("12+34", 46);
        says("not1", 0);
    }

    // "blanks (32, 10) may stand between"
    private static void blanksMayStand() {
        for (String blank : new String[] {" ", "\n", "  ", "\n\n", " \n ", "\n \n"}) {
            stands(blank + "stop" + blank + "0" + blank + ";" + blank + "keep" + blank + "0" + blank + ";" + blank + "say"
                + blank + "0" + blank + ";" + blank);
            says(blank + "(" + blank + "1" + blank + "+" + blank + "2" + blank + ")" + blank + "*" + blank + "3" + blank, 9);
            faultAt(blank.length(), blank);
            faultAt(4 + blank.length(), "stop" + blank);
            faultAt(4 + blank.length(), "stop" + blank + "?");
        }
        faultAt(0, "st op 0;keep 0;say 0;");
        faultAt(7, "stop 1 2;keep 0;say 0;");
    }

    private static void blanksNeedNotStand() {
        stands("stop0;keep0;say0;");
        stands("stop(0)or(1);keep-1;say not(1)and-1<2;");
        stands("stop 0or 1and 2;keep 0=hits;say hits*run-all;");
    }

    // "also of a byte that begins none"; WORDS a .. z, digits 0 .. 9, SIGNS ( ) ; + - * < =
    private static void bytesThatBeginNone() {
        for (int value = 0; value < 256; value++) {
            boolean blank = value == 32 || value == 10;
            boolean digit = value >= 48 && value <= 57;
            boolean joins = ";+-*<=".indexOf(value) >= 0;
            String text = "stop 0" + (char) value + ";keep 0;say 0;";
            Check.due("text(), byte " + value + " behind a number", Check.read(new FiveCards(), text),
                blank || digit ? 1 : joins ? -107 : -106);
        }
    }

    // "WORDS (a .. z)": what is no such letter ends a WORD, and is a TOKEN of its own or begins none
    private static void bytesBehindAWord() {
        for (int value = 0; value < 256; value++) {
            boolean blank = value == 32 || value == 10;
            boolean letter = value >= 97 && value <= 122;
            boolean joins = ";+-*<=".indexOf(value) >= 0;
            String text = "stop hits" + (char) value + ";keep 0;say 0;";
            Check.due("text(), byte " + value + " behind a word", Check.read(new FiveCards(), text),
                blank ? 1 : letter ? -105 : joins ? -110 : -109);
        }
    }

    private static void bytesAtFirst() {
        for (int value = 0; value < 256; value++) {
            boolean blank = value == 32 || value == 10;
            Check.due("text(), byte " + value + " ahead of all", Check.read(new FiveCards(), (char) value + PLAIN),
                blank ? 1 : -100);
            Check.due("text(), byte " + value + " behind all", Check.read(new FiveCards(), PLAIN + (char) value),
                blank ? 1 : -120);
        }
    }

    // "a WORD that is neither KEY nor NAME"
    private static void wordsNeitherKeyNorName() {
        for (String name : new String[] {"hits", "run", "all", "leaks", "day", "next"}) {
            stands("stop " + name + ";keep 0;say 0;");
            faultAt(5, "stop " + name.substring(1) + ";keep 0;say 0;");
            faultAt(5, "stop " + name.substring(0, name.length() - 1) + ";keep 0;say 0;");
            faultAt(5, "stop " + name + "a;keep 0;say 0;");
            faultAt(5, "stop z" + name + ";keep 0;say 0;");
            faultAt(5, "stop " + name.substring(0, 1).toUpperCase() + name.substring(1) + ";keep 0;say 0;");
            faultAt(5, "stop " + name + name + ";keep 0;say 0;");
        }
        faultAt(5, "stop a;keep 0;say 0;");
        faultAt(5, "stop z;keep 0;say 0;");
        faultAt(7, "stop 1 x 2;keep 0;say 0;");
        faultAt(8, "stop 1+ nor;keep 0;say 0;");
        // also where no NAME could stand
        faultAt(0, "hist 0;keep 0;say 0;");
        faultAt(20, PLAIN + "hist");
    }

    // "NUMBERS (as many digits as stand there, 4 at most)"; "a NUMBER that is too long"
    private static void numbersOfFourDigits() {
        says("0", 0);
        says("9", 9);
        says("9999", 9999);
        says("1000", 1000);
        says("0000", 0);
        says("0001", 1);
        faultAt(5, "stop 10000;keep 0;say 0;");
        faultAt(5, "stop 00000;keep 0;say 0;");
        faultAt(5, "stop 00001;keep 0;say 0;");
        faultAt(7, "stop 1+99999;keep 0;say 0;");
        faultAt(18, "stop 0;keep 0;say 12345;");
        faultAt(5, "stop 1234567890123456789012345678901234567890;keep 0;say 0;");
        faultAt(6, "stop -12345;keep 0;say 0;");
        // where no NUMBER could stand it is a FAULT all the same
        faultAt(0, "12345");
        faultAt(0, "1");
        faultAt(20, PLAIN + "12345");
    }

    // "(the text's size, if it ends too early)"
    private static void endsTooEarly() {
        String[] tokens = {"stop", "not", "(", "hits", "+", "-", "1", "*", "run", ")", "<", "2", "and", "3", "or", "all",
            ";", "keep", "leaks", "=", "4", ";", "say", "5", ";"};
        StringBuilder text = new StringBuilder();
        for (String token : tokens) {
            faultAt(text.length(), text.toString());
            for (int cut = 1; cut < token.length(); cut++) {
                boolean letters = token.charAt(0) >= 'a';
                // a WORD that is cut off is none
                if (letters) {
                    faultAt(text.length(), text + token.substring(0, cut));
                }
            }
            text.append(token);
            if (text.length() < 60) {
                text.append(' ');
            }
        }
        stands(text.toString());
    }

    private static void nothingStandsBehind() {
        for (String token : new String[] {"stop", "keep", "say", "or", "and", "not", "hits", "1", "(", ")", ";", "+", "-",
            "*", "<", "="}) {
            faultAt(20, PLAIN + token);
            faultAt(22, PLAIN + " \n" + token);
        }
        stands(PLAIN + " \n");
        faultAt(20, PLAIN + PLAIN);
    }

    // "TEXT: stop E ; keep E ; say E ;"
    private static void partsInOrder() {
        faultAt(0, "keep 0;stop 0;say 0;");
        faultAt(0, "say 0;");
        faultAt(0, "0;0;0;");
        faultAt(7, "stop 0;stop 0;say 0;");
        faultAt(7, "stop 0;say 0;keep 0;");
        faultAt(14, "stop 0;keep 0;keep 0;");
        faultAt(14, "stop 0;keep 0;stop 0;");
        faultAt(14, "stop 0;keep 0;0;");
        faultAt(7, "stop 0;;keep 0;say 0;");
        faultAt(7, "stop 0 keep 0;say 0;");
        faultAt(14, "stop 0;keep 0 say 0;");
        faultAt(5, "stop ;keep 0;say 0;");
        faultAt(12, "stop 0;keep ;say 0;");
        faultAt(18, "stop 0;keep 0;say ;");
        faultAt(6, "stop 0);keep 0;say 0;");
        faultAt(7, "stop (0;keep 0;say 0;");
    }

    // "stop, keep, say, or, and, not are KEYS": they are no ONE
    private static void keysAreNoNames() {
        for (String key : new String[] {"stop", "keep", "say", "or", "and"}) {
            faultAt(5, "stop " + key + ";keep 0;say 0;");
            faultAt(7, "stop 1+" + key + ";keep 0;say 0;");
        }
        faultAt(8, "stop not;keep 0;say 0;");
        faultAt(7, "stop 1+not 1;keep 0;say 0;");
        faultAt(7, "stop 1 stop 1;keep 0;say 0;");
    }

    // "SUM, perhaps < or = and a SUM"
    private static void oneComparison() {
        stands("stop 1;keep 1<2;say 1=2;");
        faultAt(8, "stop 1<2<3;keep 0;say 0;");
        faultAt(8, "stop 1<2=3;keep 0;say 0;");
        faultAt(8, "stop 1=2<3;keep 0;say 0;");
        faultAt(8, "stop 1=2=3;keep 0;say 0;");
        faultAt(7, "stop 1<=2;keep 0;say 0;");
        faultAt(7, "stop 1==2;keep 0;say 0;");
        faultAt(5, "stop <2;keep 0;say 0;");
        faultAt(7, "stop 1<;keep 0;say 0;");
        stands("stop (1<2)<3;keep 1<(2<3);say 1<2 and 2<3 or 3=4;");
    }

    // "NOT: not NOT, or SUM": no not within a SUM
    private static void notStandsAheadOfSums() {
        stands("stop not not 1;keep not 1<2;say 1 and not 2 or not 3;");
        faultAt(7, "stop 1<not 2;keep 0;say 0;");
        faultAt(7, "stop 1*not 2;keep 0;say 0;");
        faultAt(6, "stop -not 2;keep 0;say 0;");
        stands("stop 1<(not 2);keep -(not 2);say 1*(not 2);");
    }
}
