/** Promises 18 to 20: texts. */
public final class TextsTest {
    private static final String FIRST = "stop 8 < hits ; keep 4 < hits ; say hits - leaks - 5 ;";

    public static void main(String[] args) {
        feed();
        feedIsFull();
        text();
        textsAreFull();
        faultsOfWords();
        faultsOfOrder();
        faultsOfDepth();
        values();
        names();
        force();
        Check.end();
    }

    private static void feed() {
        FiveCards x = new FiveCards();
        for (int bad : new int[] {0, -1, 9, Integer.MIN_VALUE, Integer.MAX_VALUE}) {
            Check.due("feed(" + bad + ", 0)", x.feed(bad, 0), -2);
        }
        Check.due("feed(1, 's' and more)", x.feed(1, 0x7a73), 1);
        Check.due("feed(3, 'top')", x.feed(3, 0x706f74), 4);
        Check.due("feed(8, ..), the highest byte is above 127", x.feed(8, 0xff20202020202020L), 12);
        Check.due("text(), a byte that begins none", x.text(), -111);
        Check.due("feed(8, -1)", x.feed(8, -1), 8);
        Check.due("text()", x.text(), -100);
    }

    private static void feedIsFull() {
        FiveCards x = new FiveCards();
        for (int k = 1; k <= 19; k++) {
            Check.due("feed(8, blanks)", x.feed(8, 0x2020202020202020L), 8 * k);
        }
        Check.due("feed(7, ..)", x.feed(7, 0x0a0a0a0a0a0a0aL), 159);
        Check.due("feed(2, ..)", x.feed(2, 0), -4);
        Check.due("feed(9, ..)", x.feed(9, 0), -2);
        Check.due("count(5)", x.count(5), 159);
        Check.due("feed(1, ..)", x.feed(1, 32), 160);
        Check.due("feed(1, ..)", x.feed(1, 32), -4);
        Check.due("text(), it ends too early", x.text(), -260);
        Check.due("count(5)", x.count(5), 0);
        StringBuilder longest = new StringBuilder("stop 0;keep 0;say 0");
        while (longest.length() < 159) {
            longest.append("+1");
        }
        longest.append(";");
        Check.due("count(5)", Check.feed(x, longest.toString()), 160);
        Check.due("text() of 160 bytes", x.text(), 1);
        x.pack(1);
        x.run(0, 0, 0);
        x.force(1);
        Check.due("told(0, 13)", x.told(0, 13), 70);
    }

    private static void text() {
        FiveCards x = new FiveCards();
        Check.due("count(4), TEXT 0 with them", x.count(4), 1);
        Check.due("text(), an empty tape", x.text(), -100);
        Check.due("text()", Check.read(x, FIRST), 1);
        Check.due("count(5), empty then", x.count(5), 0);
        Check.due("text(), no blanks", Check.read(x, "stop8<hits;keep4<hits;say hits-leaks-5;"), 2);
        Check.due("text(), blanks of both kinds", Check.read(x, " \n stop\n0;keep 0 ;\nsay 0 ; \n"), 3);
        Check.due("text(), a number and a name side by side", Check.read(x, "stop 0or 1;keep 1and 1;say not 1;"), 4);
        Check.due("count(4)", x.count(4), 5);
        Check.due("count(6)", x.count(6), 0);
    }

    private static void textsAreFull() {
        FiveCards x = new FiveCards();
        for (int k = 1; k < 6; k++) {
            Check.due("text()", Check.read(x, FIRST), k);
        }
        Check.due("text(), none more has room", x.text(), -4);
        Check.due("text(), none more has room", Check.read(x, "?"), -4);
        Check.due("count(5), the tape stays", x.count(5), 1);
        Check.due("count(4)", x.count(4), 6);
    }

    private static void faultAt(int place, String text) {
        FiveCards x = new FiveCards();
        Check.due("text() of " + text, Check.read(x, text), -100 - place);
        Check.due("count(5), empty by a fault, too", x.count(5), 0);
        Check.due("count(4)", x.count(4), 1);
    }

    private static void faultsOfWords() {
        faultAt(0, "Stop 0;keep 0;say 0;");
        faultAt(0, "stops 0;keep 0;say 0;");
        faultAt(0, "stophits;keep 0;say 0;");
        faultAt(0, "sto 0;keep 0;say 0;");
        faultAt(5, "stop hit;keep 0;say 0;");
        faultAt(5, "stop hitsa;keep 0;say 0;");
        faultAt(5, "stop hitsrun;keep 0;say 0;");
        faultAt(5, "stop hitsz;keep 0;say 0;");
        faultAt(9, "stop hits{;keep 0;say 0;");
        faultAt(9, "stop hits`;keep 0;say 0;");
        faultAt(6, "stop 1:;keep 0;say 0;");
        faultAt(9, "stop hits0;keep 0;say 0;");
        faultAt(5, "stop 12345;keep 0;say 0;");
        faultAt(5, "stop 00000;keep 0;say 0;");
        faultAt(7, "stop 1+99999;keep 0;say 0;");
        faultAt(4, "stop\t0;keep 0;say 0;");
        faultAt(4, "stop\r0;keep 0;say 0;");
        faultAt(7, "stop 0 > 1;keep 0;say 0;");
        faultAt(6, "stop 0/1;keep 0;say 0;");
        faultAt(5, "stop \u00e9;keep 0;say 0;");
        faultAt(21, "stop 0;keep 0;say 0; \u0000");
    }

    private static void faultsOfOrder() {
        faultAt(0, ";");
        faultAt(0, "keep 0;stop 0;say 0;");
        faultAt(1, " ;");
        faultAt(4, "stop");
        faultAt(6, "stop  ");
        faultAt(5, "stop ;keep 0;say 0;");
        faultAt(6, "stop 0");
        faultAt(7, "stop 0 keep 0;say 0;");
        faultAt(7, "stop 0;");
        faultAt(7, "stop 0;say 0;");
        faultAt(13, "stop 0;keep 0");
        faultAt(14, "stop 0;keep 0;");
        faultAt(19, "stop 0;keep 0;say 0");
        faultAt(20, "stop 0;keep 0;say 0;;");
        faultAt(21, "stop 0;keep 0;say 0; stop");
        faultAt(7, "stop 1 2;keep 0;say 0;");
        faultAt(9, "stop 1 < < 2;keep 0;say 0;");
        faultAt(11, "stop 1 < 2 < 3;keep 0;say 0;");
        faultAt(11, "stop 1 = 2 = 3;keep 0;say 0;");
        faultAt(11, "stop 1 < 2 = 3;keep 0;say 0;");
        faultAt(9, "stop 1 + not 2;keep 0;say 0;");
        faultAt(9, "stop 1 < not 2;keep 0;say 0;");
        faultAt(7, "stop - not 2;keep 0;say 0;");
        faultAt(7, "stop 1 not 2;keep 0;say 0;");
        faultAt(5, "stop or 2;keep 0;say 0;");
        faultAt(5, "stop * 2;keep 0;say 0;");
        faultAt(5, "stop + 2;keep 0;say 0;");
        faultAt(6, "stop ();keep 0;say 0;");
        faultAt(7, "stop (1;keep 0;say 0;");
        faultAt(6, "stop 1);keep 0;say 0;");
        faultAt(7, "stop 1 (2);keep 0;say 0;");
        faultAt(5, "stop say;keep 0;say 0;");
        faultAt(10, "stop 1 and;keep 0;say 0;");
    }

    private static void faultsOfDepth() {
        faultAt(10, "stop ((((((1))))));keep 0;say 0;");
        faultAt(10, "stop ------1;keep 0;say 0;");
        faultAt(25, "stop not not not not not not 1;keep 0;say 0;");
        faultAt(13, "stop not (-(-(1)));keep 0;say 0;");
        faultAt(13, "stop not (-(-not 1));keep 0;say 0;");
        faultAt(22, "stop ((((1)))*(((1)*((((2))))));keep 0;say 0;");
        FiveCards x = new FiveCards();
        Check.due("text(), five open", Check.read(x, "stop (((((1)))));keep -----1;say not not not not not 1;"), 1);
        Check.due("text(), five open, mixed", Check.read(x, "stop not (-(-1));keep 0;say 0;"), 2);
        Check.due("text(), ends close", Check.read(x, "stop ((((-1+-1-(2)))))*(((((3)))));keep 0;say 0;"), 3);
        Check.due("text(), not ends behind its comparison",
            Check.read(x, "stop ((((not 1<2 or -3 and not 0))));keep 0;say 0;"), 4);
        Check.due("text(), - 1 - 1", Check.read(x, "stop -----1------1;keep -----1*-----1;say 0;"), 5);
    }

    private static void values() {
        says("0 or 0", 0);
        says("0 or 7", 1);
        says("7 or 0", 1);
        says("2 and 4", 1);
        says("2 and 0", 0);
        says("0 and 2", 0);
        says("not 0", 1);
        says("not 5", 0);
        says("not not 5", 1);
        says("7", 7);
        says("(7)", 7);
        says("0 or 0 or 3 and 0", 0);
        says("1 or 1 and 0", 1);
        says("(1 or 1) and 0", 0);
        says("not 0 and 0", 0);
        says("not 1 < 2", 0);
        says("not (1 < 2) = 0", 1);
        says("(not 1) < 2", 1);
        says("1 < 2", 1);
        says("2 < 2", 0);
        says("3 < 2", 0);
        says("2 = 2", 1);
        says("2 = 3", 0);
        says("1 + 1 = 2 * 1", 1);
        says("10 - 3 - 2", 5);
        says("10 - 3 + 2", 9);
        says("10 - 3 * 2", 4);
        says("2 * 3 + 4 * 5", 26);
        says("2 * (3 + 4) * 5", 70);
        says("-3 * -4", 12);
        says("- 3 - - 4", 1);
        says("--3", 3);
        says("-3 < 2", 1);
        says("0009", 9);
        says("9999 * 9999", 99980001);
        says("9999 * 9999 * 9999", (int) (99980001L * 9999L));
        says("(0 - 8192 * 8192 * 32 < 0) + 10 * (-(8192 * 8192 * 32) < 0)", 11);
        says("8192*8192*32 - 1", Integer.MAX_VALUE);
    }

    private static void says(String e, int want) {
        FiveCards x = Check.with(10000, 1);
        Check.due("say " + e, Check.said(x, 0, e), want);
    }

    private static void names() {
        FiveCards x = new FiveCards();
        x.pack(21000);
        x.run(0, 0, 3);
        x.run(0, 1, 4);
        x.run(0, 0, 95);
        Check.guesses(x, 2, 0, 1, 1);
        x.leak(0, 2, 0);
        x.leak(2, 1, 0);
        x.shut(1, 1);
        Check.rowIs(x, 2, 0, "001");
        Check.due("say hits", Check.said(x, 2, "hits"), 2);
        x.force(0);
        Check.due("say leaks", Check.said(x, 2, "leaks*100+day"), 295);
        x.force(0);
        Check.due("say next", Check.said(x, 2, "next"), 2);
        x.force(0);
        Check.due("say run and all", Check.said(x, 2, "run*10+all"), 2);
        x.force(Check.read(x, "stop 0;keep run=1 and all=4 and day=95 and leaks=2 and next=2 and hits=2;say 0;"));
        Check.due("told(2, 12)", x.told(2, 12), 1);
        Check.due("told(0, 12)", x.told(0, 12), 0);
        x = new FiveCards();
        x.pack(21000);
        x.run(0, 1, 3);
        x.run(0, 0, 3);
        x.force(Check.read(x, "stop 0;keep run=0 and all=hits and hits=2;say 0;"));
        Check.due("told(0, 12), the first of its guesser", x.told(0, 12), 1);
        Check.due("told(1, 12), the first of its guesser", x.told(1, 12), 1);
    }

    private static void force() {
        FiveCards x = Check.with(50000, 1);
        Check.due("told(0, 12) by TEXT 0", x.told(0, 12), 1);
        Check.read(x, "stop 0;keep 0;say 3;");
        Check.due("told(0, 13), not yet the rule", x.told(0, 13), 0);
        Check.due("force(1)", x.force(1), 0);
        Check.due("told(0, 12)", x.told(0, 12), 0);
        Check.due("told(0, 13)", x.told(0, 13), 3);
        for (int bad : new int[] {-1, 2, 6, Integer.MIN_VALUE, Integer.MAX_VALUE}) {
            Check.due("force(" + bad + ")", x.force(bad), -2);
        }
        Check.due("count(6)", x.count(6), 1);
        Check.due("force(1)", x.force(1), 1);
        Check.due("force(0)", x.force(0), 1);
        Check.due("told(0, 13)", x.told(0, 13), 0);
        Check.read(x, "stop ?");
        Check.due("told(0, 13), a fault leaves the rule", x.told(0, 13), 0);
    }
}
