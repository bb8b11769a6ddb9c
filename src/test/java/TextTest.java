/** Promises 1 and 6 to 8: the tape, and what is read from it. */
public final class TextTest {
    private static final Check check = new Check();
    private static final String TWO = "h1,1;f1;f2;";

    public static void main(String[] args) {
        isEmptyAtFirst();
        feeds();
        readsHouses();
        tellsFaults();
        leavesTheHouseAfterAFault();
        takesTheNextHouse();
        readsNothingOfWhatStoodBefore();
        check.end();
    }

    private static void isEmptyAtFirst() {
        BellowsWords x = new BellowsWords();
        for (int what = 0; what < 10; what++) {
            check.due("count(" + what + ") at first", x.count(what), 0);
        }
        check.due("fault() at first", x.fault(), 0);
        check.due("days(0) without a HOUSE", x.days(0), BellowsWords.STATE);
    }

    private static void feeds() {
        BellowsWords x = new BellowsWords();
        check.due("feed(0)", x.feed(0), 1);
        check.due("feed(255)", x.feed(255), 2);
        check.due("feed(-1)", x.feed(-1), BellowsWords.BAD);
        check.due("feed(256)", x.feed(256), BellowsWords.BAD);
        for (int i = 3; i <= 100; i++) {
            check.due("feed number " + i, x.feed(44), i);
        }
        check.due("feed number 101", x.feed(44), BellowsWords.FULL);
        check.due("BAD goes ahead of FULL", x.feed(256), BellowsWords.BAD);
        check.due("count(9)", x.count(9), 100);
        check.due("house()", x.house(), -1000100);
        check.due("count(9) then", x.count(9), 0);
        check.due("feed then", x.feed(1), 1);
    }

    private static void readsHouses() {
        BellowsWords x = new BellowsWords();
        check.due("the least house", Check.read(x, TWO), 2);
        check.due("no pairs", x.count(2), 0);
        check.due("eight hearths", Check.read(x, "h15,9;f0;f1;f2;f3;f4;f5;f6;f20;"), 8);
        check.due("WARM", x.count(4), 15);
        check.due("TAKES", x.count(5), 9);
        check.due("FIRE 7", x.hearth(7, 0), 20);
        check.due("LIT", x.count(6), 254);
        check.due("seven pairs", Check.read(x,
            TWO + "l40,0,1;o0,1,0;s01,1,01;t02,00,1;b3,0,0;l4,0,0;l5,1,1;"), 2);
        check.due("pairs", x.count(2), 7);
        check.due("pegs", x.count(7), 1 + 4 + 8 + 64);
        check.due("figures 01", x.pair(2, 0), 1);
        for (int p = 0; p < 5; p++) {
            check.due("kind(" + p + ")", x.kind(p), p + 1);
        }
        check.due("numbers of two figures", Check.read(x, "h07,09;f00;f07;"), 2);
    }

    private static void dueFault(String text, int fault, int place) {
        BellowsWords x = new BellowsWords();
        check.due("'" + text + "'", Check.read(x, text), -1000100 - place);
        check.due("fault() of '" + text + "'", x.fault(), fault);
        check.due("count(9) of '" + text + "'", x.count(9), 0);
        check.due("count(1) of '" + text + "'", x.count(1), 0);
    }

    private static void tellsFaults() {
        dueFault("", 1, 0);
        dueFault("f", 1, 0);
        dueFault("H1,1;", 1, 0);
        dueFault(" h1,1;", 1, 0);
        dueFault("h", 1, 1);
        dueFault("h,", 1, 1);
        dueFault("h16,", 2, 1);
        dueFault("h15", 1, 3);
        dueFault("h015,1;", 1, 1);
        dueFault("h999", 1, 1);
        dueFault("h1;", 1, 2);
        dueFault("h1,0;", 2, 3);
        dueFault("h1,10;", 2, 3);
        dueFault("h1,100;", 1, 3);
        dueFault("h1,1,", 1, 4);
        dueFault("h1,1;", 1, 5);
        dueFault("h1,1;f1;", 1, 8);
        dueFault("h1,1;f1;l1,0,1;", 1, 8);
        dueFault("h1,1;f21;", 2, 6);
        dueFault("h1,1;f020;", 1, 6);
        dueFault("h1,1;f1,", 1, 7);
        dueFault(TWO + "h", 1, 11);
        dueFault(TWO + "1", 1, 11);
        dueFault(TWO + ";", 1, 11);
        dueFault(TWO + "\u0000", 1, 11);
        dueFault(TWO + "\u00e9", 1, 11);
        dueFault(TWO + "l", 1, 12);
        dueFault(TWO + "l41", 2, 12);
        dueFault(TWO + "l40,2,", 2, 15);
        dueFault(TWO + "l40,99,", 2, 15);
        dueFault(TWO + "l40,1,2;", 2, 17);
        dueFault(TWO + "l40,1,1", 1, 18);
        dueFault(TWO + "l40;", 1, 14);
        dueFault(TWO + "ll40", 1, 12);
        dueFault(TWO + "l40,0,1;f1;", 1, 19);
        dueFault("h0,1;f0;f0;f0;f0;f0;f0;f0;f0;f", 3, 29);
        dueFault("h0,1;f0;f0;f0;f0;f0;f0;f0;f0;fx", 3, 29);
        dueFault("h0,1;f0;f0;f0;f0;f0;f0;f0;f0;l0,0,1;f", 1, 36);
        String seven = TWO + "l0,0,1;l0,0,1;l0,0,1;l0,0,1;l0,0,1;l0,0,1;l0,0,1;";
        dueFault(seven + "b", 3, 60);
        dueFault(seven + "f", 1, 60);
        dueFault(seven + "x", 1, 60);
    }

    private static void leavesTheHouseAfterAFault() {
        BellowsWords x = Check.housed("h5,3;f9;f0;l20,0,1;");
        x.days(2);
        check.due("a faulty text", Check.read(x, "h1,1;f1;f1;f1;t7,0,0;x"), -1000121);
        check.due("HEARTHS stay", x.count(1), 2);
        check.due("PAIRS stay", x.count(2), 1);
        check.due("DAY stays", x.count(3), 2);
        check.due("WARM stays", x.count(4), 5);
        check.due("BREATH stays", x.pair(0, 0), 19);
        check.due("FIRE stays", x.hearth(0, 0), 7);
        check.due("ACTS stay", x.count(8), 2);
        check.due("undo()", x.undo(), 1);
    }

    private static void takesTheNextHouse() {
        BellowsWords x = Check.housed("h5,3;f9;f0;l20,0,1;");
        x.days(3);
        check.due("another house", Check.read(x, "h2,4;f1;f0;f3;"), 3);
        check.due("DAY is 0", x.count(3), 0);
        check.due("no ACT", x.count(8), 0);
        check.due("no undo", x.undo(), BellowsWords.STATE);
        check.due("no PAIR", x.count(2), 0);
        check.due("WARM", x.count(4), 2);
        check.due("TAKES", x.count(5), 4);
        check.due("LIT", x.count(6), 5);
        check.due("fault() stays 0", x.fault(), 0);
        Check.read(x, "h16");
        Check.read(x, "h2,4;f1;f0;f3;");
        check.due("fault() is the latest, though one was read since", x.fault(), 2);
    }

    private static void readsNothingOfWhatStoodBefore() {
        BellowsWords x = Check.housed("h1,1;f1;f2;f20;t9,2,0;");
        check.due("the tape before was longer", Check.read(x, "h1,1;f1;f2"), -1000110);
        check.due("two hearths", Check.read(x, "h1,1;f0;f0;"), 2);
        check.due("the third of before burns no more", x.days(1), 0);
        String most = "h15,9;f20;f20;f20;f20;f20;f20;f20;f20;l40,00,01;l40,00,01;l40,00,01;l40,0,1;l40,0,1;l40,0,1;";
        check.due("100 bytes", Check.read(x, most + "l40,0,1;"), 8);
        check.due("PAIRS of them", x.count(2), 7);
        check.due("100 bytes, and an end too soon", Check.read(x, most + "l40,0,01"), -1000200);
    }
}
