import java.util.ArrayList;
import java.util.List;

/** Part 1 as far as TEXTS go, promises 1 and 6 to 8. */
final class EdgesOfTexts {
    private static final String LAW = "h1,1;";
    private static final String TWO = LAW + "f1;f2;";
    private static final String GOOD = "h12,3;f9;f10;f0;l7,0,1;o40,2,0;s0,1,1;t15,1,0;b38,02,01;";
    private static final String EIGHT = LAW + "f0;f1;f2;f3;f4;f5;f6;f7;";
    private static final String SEVEN = TWO + "l0,0,1;o1,1,0;s2,0,1;t3,1,0;b4,0,1;l5,1,0;o6,0,1;";

    private final Edges edges;

    EdgesOfTexts(Edges edges) {
        this.edges = edges;
    }

    void all() {
        newObjectsHaveNoHouse();
        tapesHaveAHundredBytes();
        tokensAreTold();
        numbersHaveTwoFigures();
        partsComeInTheirOrder();
        lawsHaveTheirRanges();
        hearthsHaveTheirRange();
        pairsHaveTheirRanges();
        sortsAreFive();
        housesStandInPlace();
        nothingOfTheHouseBeforeIsLeft();
        theFirstTokenHasTheFault();
        endsAreToldByTheirPlace();
        runsOfFiguresAreToldAtTheirFirst();
        numbersAreNotAsTold();
        thereIsNoMoreRoom();
        bytesAreFed();
        tapesAreEmptyThen();
        faultsLeaveAll();
        faultsAreTheLatest();
    }

    private Run dueFault(String text, int fault, int place) {
        return edges.fresh().faults(text, fault, place).due("count(1)", 0).due("count(9)", 0);
    }

    private void newObjectsHaveNoHouse() {
        edges.of(1, "No HOUSE.");
        Run run = edges.fresh();
        for (int what = 0; what < 10; what++) run.due("count(" + what + ")", 0);
        run.state("days(1)", "weather(0)", "undo()", "lit(0)", "empty(0)", "draw(1, 0)", "drawn(0, 1, 0)");
        run.state("image(0)", "image(1)", "restore(0)", "restore(1)").none("trace(0)");
        run.bad("pair(0, 0)", "hearth(0, 0)", "peg(0, 0)", "move(0, 0)", "light(0, 0)", "kind(0)", "as(0, 0)");
        run.bad("breath(0, 0)", "fire(0, 0)", "cold(0)", "best(0, 1, 0)", "rests(0, 1, 5, 0)", "ask(0, 0)");
        run.bad("fits(0, 0, 0, 1, 0)", "chance(0, 0, 0, 0)").due("fault()", 0).due("status()", 0);
    }

    private void tapesHaveAHundredBytes() {
        edges.of(Edges.TERMS, "TEXTS: THE TAPE has at most 100 bytes, that come one by one;");
        Run run = edges.fresh();
        for (int i = 1; i <= 100; i++) run.due("feed(120)", i);
        run.full("feed(120)", "feed(0)").due("count(9)", 100).faults("", 1, 0).due("feed(120)", 1);
        String most = "h15,9;f20;f20;f20;f20;f20;f20;f20;f20;l40,00,01;l40,00,01;l40,00,01;l40,0,1;l40,0,1;l40,0,1;";
        edges.fresh().feeds(most + "l40,0,1;").due("count(9)", 100).due("house()", 8).due("count(2)", 7);
        edges.fresh().feeds(most + "l40,0,1;").full("feed(120)").due("house()", 8);
        dueFault(most + "l40,0,01", 1, 100);
        dueFault(most + "l40,0,1x", 1, 99);
    }

    private void tokensAreTold() {
        edges.of(Edges.TERMS, "TOKENS: letters a to z (each by itself),");
        dueFault("hh1,1;", 1, 1);
        dueFault(LAW + "ff1;", 1, 6);
        dueFault(TWO + "lo1,0,1;", 1, 12);
        dueFault("H1,1;", 1, 0);
        dueFault(LAW + "F1;", 1, 5);
        dueFault(TWO + "L1,0,1;", 1, 11);
        edges.of(Edges.TERMS, "SIGNS , and ; nothing else, no blanks.");
        for (char other : new char[] {' ', '\t', '\n', '\r', '+', '-', '.', ':', '<', 0, 127, 160, 255, ';'}) {
            dueFault("h1" + other + "1;f1;f2;", 1, 2);
        }
        for (char other : new char[] {' ', '\t', '\n', '\r', '+', '-', '.', ':', '<', 0, 127, 160, 255, ','}) {
            dueFault("h1,1" + other + "f1;f2;", 1, 4);
        }
        for (char blank : new char[] {' ', '\t', '\n'}) {
            dueFault(blank + TWO, 1, 0);
            dueFault("h" + blank + "1,1;f1;f2;", 1, 1);
            dueFault("h1" + blank + ",1;f1;f2;", 1, 2);
            dueFault("h1," + blank + "1;f1;f2;", 1, 3);
            dueFault(LAW + "f1;" + blank + "f2;", 1, 8);
            dueFault(TWO + blank, 1, 11);
        }
    }

    private void numbersHaveTwoFigures() {
        edges.of(Edges.TERMS, "NUMBERS (figures, 2 at most),");
        edges.housed("h7,9;f4;f5;l6,1,1;").due("count(4)", 7).due("pair(0, 0)", 6);
        edges.housed("h07,09;f04;f05;l06,01,01;").due("count(4)", 7).due("count(5)", 9).due("pair(0, 0)", 6);
        edges.housed("h00,01;f00;f20;l00,00,00;").due("count(4)", 0).due("hearth(0, 0)", 0).due("pair(0, 2)", 0);
        dueFault("h007,9;f4;f5;", 1, 1);
        dueFault("h7,009;f4;f5;", 1, 3);
        dueFault("h7,9;f004;f5;", 1, 6);
        dueFault(TWO + "l006,1,1;", 1, 12);
        dueFault(TWO + "l6,001,1;", 1, 14);
        dueFault(TWO + "l6,1,001;", 1, 16);
        dueFault("h/,9;", 1, 1);
        dueFault("h:,9;", 1, 1);
        dueFault("h1/,9;", 1, 2);
        dueFault("h1:,9;", 1, 2);
        edges.housed("h10,9;f19;f09;").due("count(4)", 10).due("hearth(0, 0)", 19).due("hearth(1, 0)", 9);
    }

    private void partsComeInTheirOrder() {
        edges.of(Edges.TERMS, "house: law hearth hearth { hearth } { pair }.");
        dueFault("", 1, 0);
        dueFault("f1;f2;", 1, 0);
        dueFault("l1,0,1;", 1, 0);
        dueFault(LAW, 1, 5);
        dueFault(LAW + LAW, 1, 5);
        dueFault(LAW + "l1,0,1;", 1, 5);
        dueFault(LAW + "f1;", 1, 8);
        dueFault(LAW + "f1;l1,0,1;", 1, 8);
        dueFault(LAW + "f1;h", 1, 8);
        edges.fresh().feeds(TWO).due("house()", 2).due("count(1)", 2).due("count(2)", 0);
        edges.fresh().feeds(TWO + "f3;").due("house()", 3);
        edges.fresh().feeds(TWO + "l1,0,1;").due("house()", 2).due("count(2)", 1);
        dueFault(TWO + "h", 1, 11);
        dueFault(TWO + "l1,0,1;f3;", 1, 18);
        dueFault(TWO + "l1,0,1;h", 1, 18);
        dueFault(TWO + "l1,0,1;" + "7", 1, 18);
    }

    private void lawsHaveTheirRanges() {
        edges.of(Edges.TERMS, "law: h WARM , TAKES ; (0 to 15: bits of DAYS by 4 left over that are warm; 1 to 9).");
        edges.housed("h0,1;f0;f0;").due("count(4)", 0).due("count(5)", 1);
        edges.housed("h15,9;f0;f0;").due("count(4)", 15).due("count(5)", 9);
        dueFault("h16,1;f0;f0;", 2, 1);
        dueFault("h99,1;f0;f0;", 2, 1);
        dueFault("h0,0;f0;f0;", 2, 3);
        dueFault("h0,10;f0;f0;", 2, 3);
        dueFault("h0,00;f0;f0;", 2, 3);
        dueFault("h15,10;f0;f0;", 2, 4);
        for (int warm = 0; warm < 16; warm++) {
            Run run = edges.housed("h" + warm + ",1;f0;f0;l40,0,1;");
            for (int day = 0; day < 9; day++) {
                run.due("pair(0, 3)", -(warm >> day % 4 & 1)).does("days(1)");
            }
        }
    }

    private void hearthsHaveTheirRange() {
        edges.of(Edges.TERMS, "hearth: f FIRE ; (0 to 20; HEARTHS 0 .. 7, 2 to 8, side by side).");
        edges.housed(LAW + "f0;f20;").due("hearth(0, 0)", 0).due("hearth(1, 0)", 20).bad("hearth(2, 0)");
        dueFault(LAW + "f21;f0;", 2, 6);
        dueFault(LAW + "f0;f21;", 2, 9);
        dueFault(LAW + "f99;", 2, 6);
        Run run = edges.housed(EIGHT).due("count(1)", 8);
        for (int h = 0; h < 8; h++) run.due("hearth(" + h + ", 0)", h);
        run.bad("hearth(-1, 0)", "hearth(8, 0)");
        dueFault(LAW + "f0;", 1, 8);
        dueFault(EIGHT + "f8;", 3, 29);
    }

    private void pairsHaveTheirRanges() {
        edges.of(Edges.TERMS, "pair: SORT BREATH , HEARTH , PEG ; (SORT: l of leather, o an old one, s one with a stag, "
            + "t of tin, b of brass; 0 to 40; a HEARTH; 1 the PEG is in, 0 it is drawn; PAIRS 0 .. 6, 7 at most).");
        Run run = edges.housed(TWO + "l0,0,0;o40,1,1;").due("pair(0, 0)", 0).due("pair(0, 1)", 0);
        run.due("pair(0, 2)", 0).due("pair(1, 0)", 40).due("pair(1, 1)", 1).due("pair(1, 2)", 1).bad("pair(2, 0)");
        dueFault(TWO + "l41,0,0;", 2, 12);
        dueFault(TWO + "l40,2,0;", 2, 15);
        dueFault(TWO + "l40,1,2;", 2, 17);
        dueFault(TWO + "l40,1,10;", 2, 17);
        edges.housed(EIGHT + "l0,7,0;").due("pair(0, 1)", 7).due("hearth(7, 2)", 1);
        dueFault(EIGHT + "l0,8,0;", 2, 32);
        Run seven = edges.housed(SEVEN).due("count(2)", 7).due("pair(6, 0)", 6).bad("pair(7, 0)", "pair(-1, 0)");
        for (int p = 0; p < 7; p++) {
            seven.due("pair(" + p + ", 0)", p).due("pair(" + p + ", 1)", p % 2).due("pair(" + p + ", 2)", 1 - p % 2);
        }
        seven.due("count(7)", 1 + 4 + 16 + 64).due("hearth(0, 2)", 1 + 4 + 16 + 64).due("hearth(1, 2)", 2 + 8 + 32);
        dueFault(SEVEN + "l0,0,0;", 3, 60);
    }

    private void sortsAreFive() {
        edges.of(Edges.TERMS, "SORT: l of leather, o an old one, s one with a stag, t of tin, b of brass;");
        for (int letter = 0; letter < 256; letter++) {
            int kind = "lostb".indexOf(letter) + 1;
            Run run = edges.fresh().feeds(TWO).due("feed(" + letter + ")", 12).feeds("5,1,1;");
            if (letter == 'f') {
                run.due("house()", -1000113).due("fault()", 1);
            } else if (kind == 0) {
                run.due("house()", -1000111).due("fault()", 1);
            } else {
                run.due("house()", 2).due("kind(0)", kind);
            }
        }
    }

    private void housesStandInPlace() {
        edges.of(Edges.TERMS, "A HOUSE that is read stands in place of the one before (none at first): DAY 0; "
            + "no ACT can be undone.");
        Run run = edges.fresh().due("count(1)", 0).reads(EIGHT + "l9,7,1;t4,0,0;").does("days(5)", "peg(0, 0)");
        run.due("count(3)", 5).due("count(8)", 6).reads("h2,4;f0;f3;").due("count(3)", 0).due("count(8)", 0);
        run.state("undo()").due("count(1)", 2).due("count(2)", 0).due("count(4)", 2).due("count(5)", 4);
        run.due("count(6)", 2).due("count(7)", 0).bad("hearth(2, 0)", "pair(0, 0)");
        run.due("days(1)", 2).due("count(8)", 1).due("undo()", 0).due("count(3)", 0).state("undo()");
        run.reads("h2,4;f0;f0;f0;").due("hearth(2, 0)", 0).due("hearth(2, 2)", 0).due("hearth(0, 3)", 0);
        run.due("days(1)", 0).reads(TWO + "b3,1,1;").due("kind(0)", 5).due("pair(0, 0)", 3).bad("kind(1)");
    }

    private void nothingOfTheHouseBeforeIsLeft() {
        edges.of(Edges.TERMS, "stands in place of the one before");
        String large = "h15,9;f20;f20;f20;f20;f20;f20;f20;f20;l40,7,0;o40,6,0;s40,2,0;t40,1,0;b40,2,0;b40,3,0;t40,0,0;";
        for (String small : new String[] {"h1,2;f0;f0;", "h6,3;f0;f12;l9,0,1;o8,1,0;", SEVEN, EIGHT}) {
            Run alone = edges.housed(small);
            Run behind = edges.housed(large).does("days(1)", "draw(3, 0)").reads(small);
            Run restored = edges.housed(small).does("image(0)").reads(large).does("drawn(9, 1, 0)", "restore(0)");
            for (String call : toldOfAHouse()) {
                int due = alone.answer(call);
                behind.due(call, due);
                restored.due(call, due);
            }
        }
    }

    /** Calls that tell of all that a HOUSE has, at its least and its most, now and later on. */
    private static List<String> toldOfAHouse() {
        List<String> calls = new ArrayList<>();
        for (int h = 0; h < 8; h++) {
            calls.addAll(List.of("hearth(" + h + ", 0)", "hearth(" + h + ", 2)", "hearth(" + h + ", 3)"));
            calls.addAll(List.of("fire(" + h + ", 3)", "cold(" + h + ")"));
        }
        for (int p = 0; p < 7; p++) {
            calls.addAll(List.of("pair(" + p + ", 0)", "pair(" + p + ", 3)", "kind(" + p + ")", "breath(" + p + ", 3)"));
            calls.addAll(List.of("best(" + p + ", 5, 0)", "best(" + p + ", 5, 1)", "chance(" + p + ", 4, 3, 0)"));
        }
        calls.addAll(List.of("lit(3)", "empty(0)", "empty(1)", "draw(1, 0)", "draw(3, 1)", "drawn(0, 1, 0)", "drawn(0, 1, 1)"));
        calls.addAll(List.of("drawn(9, 1, 0)", "drawn(9, 1, 1)", "rests(0, 1, 5, -1)", "rests(0, 1, 5, 0)", "days(3)"));
        for (int what = 1; what < 9; what++) calls.add("count(" + what + ")");
        return calls;
    }

    private void theFirstTokenHasTheFault() {
        edges.of(Edges.TERMS, "FAULTS, the first TOKEN that has one (its first byte), of one TOKEN the least:");
        dueFault("h16,0;f21;", 2, 1);
        dueFault("h15,0;f21;", 2, 4);
        dueFault("h15,1;f21;x", 2, 7);
        dueFault("h15x0;f21;", 1, 3);
        dueFault("h15,x;f21;", 1, 4);
        dueFault("x16,0;", 1, 0);
        dueFault("16", 1, 0);
        dueFault(";41", 1, 0);
        dueFault("h1,1;41;", 1, 5);
        dueFault(TWO + "l41,9,9;", 2, 12);
        dueFault(TWO + "l40,9,9;", 2, 15);
        dueFault(TWO + "l40,1,9;", 2, 17);
        dueFault(TWO + "41", 1, 11);
        dueFault(EIGHT + "l0,0,1;f", 1, 36);
        dueFault(SEVEN + "f", 1, 60);
        dueFault(SEVEN + "x", 1, 60);
        dueFault(SEVEN + "41", 1, 60);
    }

    private void endsAreToldByTheirPlace() {
        edges.of(Edges.TERMS, "1 it cannot stand there, or is none (a run of three figures, at its first; "
            + "the end: how many bytes there are);");
        for (int bytes = 0; bytes <= GOOD.length(); bytes++) {
            String text = GOOD.substring(0, bytes);
            boolean isWhole = text.endsWith(";") && text.chars().filter(c -> c == ';').count() >= 3;
            if (isWhole) {
                edges.fresh().feeds(text).due("house()", text.contains("f0;") ? 3 : 2).due("fault()", 0);
            } else {
                dueFault(text, 1, bytes);
            }
        }
    }

    private void runsOfFiguresAreToldAtTheirFirst() {
        edges.of(Edges.TERMS, "(a run of three figures, at its first;");
        dueFault("h001", 1, 1);
        dueFault("h999,1;", 1, 1);
        dueFault("h1234567,1;", 1, 1);
        dueFault("h1,123;", 1, 3);
        dueFault(LAW + "f000;", 1, 6);
        dueFault(TWO + "l123", 1, 12);
        dueFault(TWO + "123", 1, 11);
        dueFault("123", 1, 0);
        dueFault("h12", 1, 3);
        dueFault("h12x", 1, 3);
        dueFault("h12,12", 2, 4);
    }

    private void numbersAreNotAsTold() {
        edges.of(Edges.TERMS, "2 a NUMBER that is not as told;");
        dueFault("h16", 2, 1);
        dueFault("h16x", 2, 1);
        dueFault("h15,0", 2, 4);
        dueFault("h15,10", 2, 4);
        dueFault(LAW + "f21", 2, 6);
        dueFault(TWO + "f21", 2, 12);
        dueFault(TWO + "b41", 2, 12);
        dueFault(TWO + "b0,2", 2, 14);
        dueFault(TWO + "f0;b0,3", 2, 17);
        edges.housed(TWO + "f0;b0,2,1;").due("pair(0, 1)", 2);
        dueFault(TWO + "b0,0,2", 2, 16);
        dueFault(TWO + "b0,0,1;b0,0,2", 2, 23);
    }

    private void thereIsNoMoreRoom() {
        edges.of(Edges.TERMS, "3 a hearth, a pair more than there is room for (its letter).");
        edges.fresh().feeds(EIGHT).due("house()", 8).due("fault()", 0);
        for (String rest : new String[] {"", "8;", "21;", "123;", "x", ";"}) dueFault(EIGHT + "f" + rest, 3, 29);
        edges.fresh().feeds(SEVEN).due("house()", 2).due("fault()", 0);
        for (String sort : new String[] {"l", "o", "s", "t", "b"}) {
            dueFault(SEVEN + sort, 3, 60);
            dueFault(SEVEN + sort + "41,9,9;", 3, 60);
            dueFault(SEVEN + sort + sort, 3, 60);
        }
    }

    private void bytesAreFed() {
        edges.of(6, "A byte (0 to 255) comes behind the tape: how many it has. BAD; FULL.");
        Run run = edges.fresh().bad("feed(-1)", "feed(256)", "feed(MIN)", "feed(MAX)").due("count(9)", 0);
        run.due("feed(0)", 1).due("feed(255)", 2).due("count(9)", 2);
        for (int i = 3; i <= 99; i++) run.does("feed(1)");
        run.due("count(9)", 99).due("feed(1)", 100).full("feed(1)", "feed(0)", "feed(255)");
        run.bad("feed(-1)", "feed(256)").due("count(9)", 100);
    }

    private void tapesAreEmptyThen() {
        edges.of(7, "The tape, empty then, is read: how many HEARTHS there are.");
        Run run = edges.fresh().feeds(TWO).due("count(9)", 11).due("house()", 2).due("count(9)", 0);
        run.faults("", 1, 0).due("count(1)", 2).feeds(EIGHT).due("house()", 8).due("count(9)", 0);
        run.feeds(LAW + "x").due("house()", -1000105).due("count(9)", 0).due("feed(104)", 1);
        run.feeds("1,1;f1;f1").due("count(9)", 10).due("feed(59)", 11).due("house()", 2);
        run.feeds(GOOD).due("house()", 3).faults(TWO.substring(0, 10), 1, 10).due("count(9)", 0);
    }

    private void faultsLeaveAll() {
        edges.of(7, "-1000100 less the place of a FAULT: all stays.");
        for (String text : new String[] {"", "h", "h16", TWO + "l41", EIGHT + "f", SEVEN + "l", TWO + "t40,1,1"}) {
            Run run = edges.housed("h5,3;f9;f0;f3;l20,0,1;b5,1,0;").does("days(2)", "image(0)", "peg(0, 0)", "ask(0, 0)");
            run.feeds(text).due("house()", -1000100 - (text.endsWith("41") ? 12 : text.endsWith("16") ? 1
                : text.startsWith(EIGHT) ? 29 : text.startsWith(SEVEN) ? 60 : text.length()));
            run.due("count(1)", 3).due("count(2)", 2).due("count(3)", 2).due("count(4)", 5).due("count(5)", 3);
            run.due("count(6)", 7).due("count(7)", 0).due("count(8)", 3).due("pair(0, 0)", 19).due("pair(1, 0)", 0);
            run.due("hearth(0, 0)", 7).due("hearth(1, 0)", 4).due("hearth(2, 0)", 1).due("kind(1)", 5);
            run.due("trace(0)", 11).due("undo()", 2).due("count(7)", 1).due("undo()", 1).due("pair(1, 0)", 1);
            run.due("hearth(0, 0)", 8).due("restore(0)", 1).due("hearth(0, 0)", 7);
        }
    }

    private void faultsAreTheLatest() {
        edges.of(8, "The number of the latest FAULT; 0 before one.");
        Run run = edges.fresh().due("fault()", 0).reads(TWO).due("fault()", 0);
        run.faults(EIGHT + "f", 3, 29).reads(TWO).due("fault()", 3).faults("h16", 2, 1).due("fault()", 2);
        run.faults("x", 1, 0).does("feed(256)", "days(0)").due("fault()", 1).faults("h16", 2, 1);
        run.faults(SEVEN + "b", 3, 60).faults("", 1, 0);
    }
}
