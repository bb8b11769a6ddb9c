/** Part 1 as far as ROWS go, promises 2 to 5, and 35. */
final class EdgesOfRows {
    /** A PAIR of tin that keeps what it has, for Run.item. */
    private static final String TIN = "h0,1;f0;f0;t0,0,1;";

    private final Edges edges;

    EdgesOfRows(Edges edges) {
        this.edges = edges;
    }

    void all() {
        rowsAreMissingAtFirst();
        lanesHaveBits();
        itemsAreForty();
        itemsAreNoneAtFirst();
        rowsStandInPlace();
        rowsAreRefused();
        itemsAreSet();
        itemsAreKeptApart();
        copiesAsTheyWereAhead();
        copiesUpToTheEnds();
        copiesAreRefused();
        rowsAreDropped();
        statusIsOfTheLatest();
        statusPassesOverOthers();
    }

    private void rowsAreMissingAtFirst() {
        edges.of(Edges.TERMS, "ROWS 0 .. 7 are missing (at first),");
        Run run = edges.fresh().due("count(0)", 0);
        for (int row = 0; row < 8; row++) {
            run.missing("drop(" + row + ")", "set(" + row + ", 0, 0)");
            run.missing("copy(" + row + ", 0, " + row + ", 0, 0)");
        }
        run.bad("drop(-1)", "drop(8)", "set(-1, 0, 0)", "set(8, 0, 0)");
        for (int row = 0; row < 8; row++) {
            run.due("row(" + row + ", 0, 1)", 1).due("count(0)", row + 1);
        }
        run.bad("row(-1, 0, 1)", "row(8, 0, 1)").due("count(0)", 8);
    }

    private void lanesHaveBits() {
        edges.of(Edges.TERMS, "or have a LANE (0 bytes, 1 shorts, 2 ints)");
        Run run = edges.fresh().bad("row(0, -1, 1)", "row(0, 3, 1)").due("count(0)", 0);
        run.due("row(0, 0, 1)", 1).due("row(1, 1, 1)", 1).due("row(2, 2, 1)", 1);
        run.due("set(0, 0, 127)", 127).due("set(0, 0, 128)", -128).due("set(0, 0, -128)", -128);
        run.due("set(0, 0, -129)", 127).due("set(0, 0, 255)", -1).due("set(0, 0, 256)", 0);
        run.due("set(0, 0, MAX)", -1).due("set(0, 0, MIN)", 0);
        run.due("set(1, 0, 32767)", 32767).due("set(1, 0, 32768)", -32768).due("set(1, 0, -32768)", -32768);
        run.due("set(1, 0, -32769)", 32767).due("set(1, 0, 65535)", -1).due("set(1, 0, 65536)", 0);
        run.due("set(1, 0, MAX)", -1).due("set(1, 0, MIN)", 0);
        run.due("set(2, 0, 65536)", 65536).due("set(2, 0, -32769)", -32769);
        run.due("set(2, 0, MAX)", Integer.MAX_VALUE).due("set(2, 0, MIN)", Integer.MIN_VALUE);
    }

    private void itemsAreForty() {
        edges.of(Edges.TERMS, "and 0 to 40 ITEMS, 0 at first.");
        Run run = edges.fresh().due("row(0, 2, -1)", Check.SIZE).missing("drop(0)");
        run.due("row(0, 2, 0)", 0).due("count(0)", 1).noPlace("set(0, 0, 1)").due("drop(0)", 0);
        run.due("row(0, 2, 40)", 40).due("set(0, 39, 7)", 7).noPlace("set(0, 40, 7)").due("drop(0)", 40);
        run.bad("row(0, 2, 41)").missing("drop(0)");
    }

    private void itemsAreNoneAtFirst() {
        edges.of(Edges.TERMS, "0 at first.");
        Run run = edges.housed(TIN).does("row(7, 2, 40)");
        for (int i = 0; i < 40; i++) run.item(7, i, 0);
        for (int i = 0; i < 40; i++) run.does("set(7, " + i + ", 5)");
        run.item(7, 0, 5).item(7, 39, 5).does("row(7, 2, 40)");
        for (int i = 0; i < 40; i++) run.item(7, i, 0);
        run.does("set(7, 0, 5)", "set(7, 39, 6)", "drop(7)", "row(7, 2, 40)").item(7, 0, 0).item(7, 39, 0);
        run.does("set(7, 0, 5)", "set(7, 39, 6)", "row(7, 2, 1)").item(7, 0, 0).does("row(7, 1, 40)");
        run.item(7, 39, 0);
    }

    private void rowsStandInPlace() {
        edges.of(2, "A ROW of a LANE with n ITEMS, in place of what is there: n.");
        Run run = edges.housed(TIN).due("row(3, 2, 5)", 5).due("set(3, 4, 1000)", 1000);
        run.due("row(3, 0, 2)", 2).due("count(0)", 1).noPlace("set(3, 2, 1)").due("set(3, 1, 1000)", -24);
        run.due("row(3, 1, 40)", 40).due("set(3, 39, 1000)", 1000).due("drop(3)", 40);
    }

    private void rowsAreRefused() {
        edges.of(2, "BAD: ROW, LANE, n above 40; SIZE.");
        Run run = edges.housed(TIN).does("row(0, 2, 3)", "set(0, 2, 9)");
        run.bad("row(-1, 0, 1)", "row(8, 0, 1)", "row(MIN, 0, 1)", "row(MAX, 0, 1)");
        run.bad("row(0, -1, 1)", "row(0, 3, 1)", "row(0, MIN, 1)", "row(0, MAX, 1)");
        run.bad("row(0, 0, 41)", "row(0, 0, MAX)");
        run.due("row(0, 0, -1)", Check.SIZE).due("row(0, 0, MIN)", Check.SIZE).due("row(7, 2, -1)", Check.SIZE);
        run.bad("row(-1, 0, -1)", "row(8, 0, -1)", "row(0, -1, -1)", "row(0, 3, -1)");
        run.due("count(0)", 1).items(0, 0, 0, 9).noPlace("set(0, 3, 0)");
    }

    private void itemsAreSet() {
        edges.of(3, "ITEM i becomes v, its lowest bits, as many as the LANE has: what it is then.");
        Run run = edges.housed(TIN).does("row(0, 0, 3)", "row(1, 1, 3)");
        run.due("set(0, 1, 296)", 40).items(0, 0, 40, 0).due("set(0, 0, 1)", 1).due("set(0, 2, 2)", 2);
        run.items(0, 1, 40, 2).due("set(1, 2, 65546)", 10).items(1, 0, 0, 10);
        edges.of(3, "BAD: ROW; NULL; PLACE.");
        run.bad("set(-1, 0, 0)", "set(8, 0, 0)", "set(MIN, 0, 0)", "set(MAX, 0, 0)", "set(8, -1, 0)");
        run.missing("set(2, 0, 0)", "set(7, 0, 0)", "set(2, -1, 0)", "set(2, 40, 0)");
        run.noPlace("set(0, -1, 9)", "set(0, 3, 9)", "set(0, MIN, 9)", "set(0, MAX, 9)");
        run.items(0, 1, 40, 2).does("row(2, 0, 0)").noPlace("set(2, 0, 0)", "set(2, -1, 0)");
    }

    private void itemsAreKeptApart() {
        edges.of(3, "ITEM i becomes v,");
        Run run = edges.housed(TIN);
        for (int row = 0; row < 8; row++) run.does("row(" + row + ", 0, 40)");
        for (int row = 0; row < 8; row++) {
            run.does("set(" + row + ", 0, " + (row + 1) + ")", "set(" + row + ", 39, " + (row + 20) + ")");
        }
        for (int row = 0; row < 8; row++) {
            run.item(row, 0, row + 1).item(row, 1, 0).item(row, 38, 0).item(row, 39, row + 20);
        }
    }

    private Run oneToFive() {
        Run run = edges.housed(TIN).does("row(0, 0, 5)");
        for (int i = 0; i < 5; i++) run.does("set(0, " + i + ", " + (i + 1) + ")");
        return run;
    }

    private void copiesAsTheyWereAhead() {
        edges.of(4, "n ITEMS of a from i on come to b from j on, as they were ahead: n.");
        oneToFive().due("copy(0, 0, 0, 1, 4)", 4).items(0, 1, 1, 2, 3, 4);
        oneToFive().due("copy(0, 1, 0, 0, 4)", 4).items(0, 2, 3, 4, 5, 5);
        oneToFive().due("copy(0, 0, 0, 2, 3)", 3).items(0, 1, 2, 1, 2, 3);
        oneToFive().due("copy(0, 0, 0, 0, 5)", 5).items(0, 1, 2, 3, 4, 5);
        Run run = oneToFive().does("row(7, 0, 3)").due("copy(0, 3, 7, 1, 2)", 2);
        run.items(7, 0, 4, 5).items(0, 1, 2, 3, 4, 5).due("copy(7, 1, 0, 0, 1)", 1).items(0, 4, 2, 3, 4, 5);
    }

    private void copiesUpToTheEnds() {
        edges.of(4, "PLACE (i, j, n below 0, or beyond an end).");
        Run run = oneToFive().does("row(1, 0, 3)", "row(2, 0, 0)");
        run.due("copy(0, 2, 1, 0, 3)", 3).noPlace("copy(0, 3, 1, 0, 3)", "copy(0, 2, 1, 1, 3)");
        run.noPlace("copy(0, 0, 1, 0, 4)", "copy(1, 0, 0, 0, 4)").items(1, 3, 4, 5).items(0, 1, 2, 3, 4, 5);
        run.due("copy(0, 5, 1, 3, 0)", 0).due("copy(2, 0, 2, 0, 0)", 0).due("copy(0, 0, 1, 0, 0)", 0);
        run.noPlace("copy(0, 6, 1, 0, 0)", "copy(0, 0, 1, 4, 0)", "copy(2, 0, 0, 0, 1)", "copy(2, 1, 0, 0, 0)");
        run.noPlace("copy(0, -1, 1, 0, 1)", "copy(0, 0, 1, -1, 1)", "copy(0, 0, 1, 0, -1)");
        run.noPlace("copy(0, -1, 1, 0, 0)", "copy(0, 0, 1, -1, 0)", "copy(0, 1, 1, 1, -1)");
        run.noPlace("copy(0, MIN, 1, 0, 1)", "copy(0, 0, 1, MIN, 1)", "copy(0, 0, 1, 0, MIN)");
        run.noPlace("copy(0, MAX, 1, 0, 1)", "copy(0, 0, 1, MAX, 1)", "copy(0, 0, 1, 0, MAX)");
        run.noPlace("copy(0, MAX, 1, MAX, MAX)", "copy(0, MIN, 1, MIN, MIN)", "copy(0, 1, 1, 1, MAX)");
        run.noPlace("copy(0, MAX, 0, 0, 0)", "copy(0, 5, 0, 0, MIN)").items(0, 1, 2, 3, 4, 5).items(1, 3, 4, 5);
        Run most = edges.housed(TIN).does("row(6, 0, 40)", "row(7, 0, 40)", "set(6, 0, 1)", "set(6, 39, 2)");
        most.due("copy(6, 0, 7, 0, 40)", 40).item(7, 0, 1).item(7, 39, 2).noPlace("copy(6, 0, 7, 0, 41)");
        most.noPlace("copy(6, 1, 7, 0, 40)", "copy(6, 0, 7, 1, 40)").due("copy(6, 39, 7, 0, 1)", 1).item(7, 0, 2);
    }

    private void copiesAreRefused() {
        edges.of(4, "BAD: ROWS; NULL; STORE; PLACE (i, j, n below 0, or beyond an end).");
        Run run = oneToFive().does("row(1, 1, 5)", "row(2, 2, 5)");
        run.bad("copy(-1, 0, 0, 0, 1)", "copy(8, 0, 0, 0, 1)", "copy(0, 0, -1, 0, 1)", "copy(0, 0, 8, 0, 1)");
        run.bad("copy(MIN, 0, 0, 0, 1)", "copy(0, 0, MAX, 0, 1)", "copy(3, 0, 8, 0, 1)", "copy(8, 0, 3, 0, -1)");
        run.missing("copy(3, 0, 0, 0, 1)", "copy(0, 0, 3, 0, 1)", "copy(3, 0, 3, 0, 1)", "copy(7, 0, 3, -1, -1)");
        run.missing("copy(0, 9, 3, 0, 1)", "copy(3, 9, 1, 0, -1)");
        run.due("copy(0, 0, 1, 0, 1)", Check.STORE).due("copy(1, 0, 0, 0, 1)", Check.STORE);
        run.due("copy(0, 0, 2, 0, 1)", Check.STORE).due("copy(1, 0, 2, 0, 1)", Check.STORE);
        run.due("copy(0, 0, 1, 0, 0)", Check.STORE).due("copy(0, 6, 1, 0, 1)", Check.STORE);
        run.due("copy(0, 0, 1, 0, -1)", Check.STORE).due("copy(2, -1, 1, 0, 1)", Check.STORE);
        run.due("copy(1, 0, 1, 1, 4)", 4).due("copy(2, 0, 2, 1, 4)", 4).items(0, 1, 2, 3, 4, 5);
        run.does("row(3, 1, 5)").due("copy(1, 0, 3, 0, 5)", 5).does("row(3, 0, 5)").due("copy(0, 0, 3, 0, 5)", 5);
    }

    private void rowsAreDropped() {
        edges.of(5, "A ROW is missing from now on: how many ITEMS it had. BAD; NULL.");
        Run run = edges.housed(TIN).does("row(0, 0, 0)", "row(7, 2, 40)", "row(3, 1, 1)").due("count(0)", 3);
        run.bad("drop(-1)", "drop(8)", "drop(MIN)", "drop(MAX)").due("count(0)", 3);
        run.due("drop(0)", 0).due("drop(7)", 40).due("count(0)", 1).missing("drop(0)", "drop(7)");
        run.missing("set(7, 0, 0)", "copy(7, 0, 7, 0, 0)", "fits(0, 7, 0, 1, 0)").due("drop(3)", 1);
        run.due("count(0)", 0).due("row(3, 1, 2)", 2).due("drop(3)", 2);
    }

    private void statusIsOfTheLatest() {
        edges.of(35, "the number of its FINDING; 0: it had none, or there was none.");
        Run run = edges.fresh().due("status()", 0).does("drop(0)").due("status()", 1).due("status()", 1);
        run.does("row(0, 0, 1)").due("status()", 0).does("set(0, 1, 0)").due("status()", 2);
        run.does("set(0, 0, 0)").due("status()", 0).does("row(1, 1, -1)").due("status()", 4);
        run.does("row(1, 1, 0)").due("status()", 0).does("copy(0, 0, 1, 0, 0)").due("status()", 5);
        run.does("copy(0, 0, 0, 0, 1)").due("status()", 0).does("copy(0, 0, 0, 0, 2)").due("status()", 2);
        run.does("drop(0)").due("status()", 0).does("set(0, 0, 0)").due("status()", 1);
        run.reads(TIN).due("status()", 1).does("as(0, 4)").due("status()", 0);
        run.does("as(0, 5)").due("status()", 3).does("fits(0, 0, 0, 1, 0)").due("status()", 1);
        run.does("fits(0, 1, 0, 1, 0)").due("status()", 2).does("row(1, 1, 1)", "set(1, 5, 0)");
        run.due("status()", 2).does("fits(0, 1, 0, 1, 4)").due("status()", 0);
        run.does("set(1, 5, 0)", "set(1, 0, 41)").due("status()", 0).does("set(1, 5, 0)");
        run.none("fits(0, 1, 0, 1, 4)").due("status()", 0);
    }

    private void statusPassesOverOthers() {
        edges.of(35, "Of the latest call with a ROW, or as(), that was not BAD, STATE, FULL:");
        Run run = edges.fresh().does("row(0, 0, 1)", "set(0, 1, 0)");
        run.does("row(8, 0, 0)", "row(0, 3, 0)", "row(0, 0, 41)", "set(8, 0, 0)", "copy(0, 0, 8, 0, 0)", "drop(8)");
        run.does("fits(0, 0, 0, 1, 0)", "as(0, 0)", "days(1)", "undo()", "image(0)", "peg(0, 0)");
        run.due("status()", 2).reads(TIN).does("as(0, 6)", "as(1, 0)", "fits(0, 0, 0, 13, 0)", "fits(0, 8, 0, 1, 0)");
        run.due("status()", 2).does("days(1)", "peg(0, 0)", "move(0, 1)", "light(0, 1)", "weather(1)", "undo()");
        run.does("pair(0, 0)", "hearth(0, 0)", "breath(0, 1)", "fire(0, 1)", "lit(1)", "empty(0)", "cold(0)");
        run.does("best(0, 1, 0)", "draw(1, 0)", "rests(0, 1, 5, 0)", "chance(0, 1, 1, 0)", "drawn(1, 1, 0)");
        run.does("image(0)", "restore(0)", "kind(0)", "ask(0, 0)", "trace(0)", "count(0)", "fault()", "house()");
        run.due("status()", 2);
        for (int i = 0; i < 101; i++) run.does("feed(1)");
        run.full("feed(1)").due("status()", 2).does("drop(0)").due("status()", 0);
    }
}
