/** Part 4 and the KINDS of part 3, promises 30 to 34. */
final class EdgesOfAsks {
    private static final String FIVE = "h0,1;f0;f0;f0;f0;l20,3,1;o15,2,1;s9,1,1;t7,3,0;b38,0,1;";

    private final Edges edges;

    EdgesOfAsks(Edges edges) {
        this.edges = edges;
    }

    void all() {
        kindsAreOneAnother();
        kindsAreTold();
        pairsAreTakenAsKinds();
        sizesAreAsked();
        marksAreAsked();
        bodiesAreFound();
        tracesAreLeft();
        asksAreRefused();
        tracesAreToldByNumber();
        allIsCounted();
        countIsRefused();
    }

    private void kindsAreOneAnother() {
        edges.of(Edges.TERMS, "KINDS of PAIRS: 0 PAIR; 1 LEATHER, a PAIR; 2 OLD, a LEATHER; 3 STAG, a LEATHER; 4 TIN, a PAIR; "
            + "5 BRASS, a TIN. By this it is asked.");
        Run run = edges.housed(FIVE);
        int[] is = {1 + 2, 1 + 2 + 4, 1 + 2 + 8, 1 + 16, 1 + 16 + 32};
        for (int p = 0; p < 5; p++) {
            for (int kind = 0; kind <= 5; kind++) {
                boolean isOne = (is[p] >> kind & 1) == 1;
                run.due("as(" + p + ", " + kind + ")", isOne ? p : Check.KIND).due("status()", isOne ? 0 : 3);
            }
        }
    }

    private void kindsAreTold() {
        edges.of(30, "The KIND of a PAIR, as told (1 to 5). BAD.");
        Run run = edges.housed(FIVE);
        for (int p = 0; p < 5; p++) run.due("kind(" + p + ")", p + 1);
        run.bad("kind(-1)", "kind(5)", "kind(MIN)", "kind(MAX)").does("as(4, 4)", "days(3)", "peg(4, 0)").due("kind(4)", 5);
        edges.fresh().bad("kind(0)");
        edges.housed("h0,1;f0;f0;").bad("kind(0)");
        Run seven = edges.housed("h0,1;f0;f0;b0,0,1;b0,0,1;b0,0,1;b0,0,1;b0,0,1;b0,0,1;l0,0,1;");
        seven.due("kind(0)", 5).due("kind(6)", 1).bad("kind(7)");
    }

    private void pairsAreTakenAsKinds() {
        edges.of(31, "A PAIR is taken as one of a KIND (0 .. 5): its number. BAD; KIND: it is no such one.");
        Run run = edges.housed(FIVE).due("as(4, 0)", 4).due("as(4, 5)", 4).due("as(1, 2)", 1).due("as(1, 0)", 1);
        run.due("as(1, 3)", Check.KIND).due("as(3, 5)", Check.KIND).due("as(0, 2)", Check.KIND).due("status()", 3);
        run.bad("as(0, -1)", "as(0, 6)", "as(0, MIN)", "as(0, MAX)", "as(-1, 0)", "as(5, 0)", "as(MIN, 0)", "as(MAX, 0)");
        run.bad("as(5, 6)", "as(-1, -1)").due("status()", 3).due("as(0, 0)", 0).due("status()", 0);
        edges.fresh().bad("as(0, 0)", "as(0, 5)").due("status()", 0);
    }

    private void dueTrace(Run run, int... numbers) {
        for (int i = 0; i < numbers.length; i++) run.due("trace(" + i + ")", numbers[i]);
        run.none("trace(" + numbers.length + ")", "trace(15)", "trace(16)", "trace(-1)");
    }

    private void dueAsk(String call, int want, int... trace) {
        dueTrace(edges.housed(FIVE).due(call, want), trace);
    }

    private void sizesAreAsked() {
        edges.of(Edges.TERMS, "0 SIZE: 10 lent to all PAIRS: BREATH. 11 of LEATHER ones: what 10 gives, and MARK. 12 of OLD ones: "
            + "0 less what 11 gives. 13 of TIN ones: what 10 gives, less 100. 14 of BRASS ones: what 13 gives, twice.");
        dueAsk("ask(0, 0)", 20 + 0 + 3, 11, 10, 21, 20);
        dueAsk("ask(1, 0)", -(15 + 2 * (1 + 2)), 12, 11, 10, 24, 21, 20);
        dueAsk("ask(2, 0)", 9 + 2 + 1 - 1000, 11, 10, 22, 21, 20);
        dueAsk("ask(3, 0)", 7 - 100, 13, 10);
        dueAsk("ask(4, 0)", 2 * (38 - 100), 14, 13, 10);
    }

    private void marksAreAsked() {
        edges.of(Edges.TERMS, "1 MARK: 20 lent to all PAIRS: the number. 21 of LEATHER ones: what 20 gives, and the HEARTH. "
            + "22 of STAG ones: what 21 gives, less 1000. 23 of TIN ones: what 20 gives, less SIZE. 24 of OLD ones: "
            + "what 21 gives, twice.");
        dueAsk("ask(0, 1)", 0 + 3, 21, 20);
        dueAsk("ask(1, 1)", 2 * (1 + 2), 24, 21, 20);
        dueAsk("ask(2, 1)", 2 + 1 - 1000, 22, 21, 20);
        dueAsk("ask(3, 1)", 3 - (7 - 100), 23, 20, 13, 10);
        dueAsk("ask(4, 1)", 4 - 2 * (38 - 100), 23, 20, 14, 13, 10);
    }

    private void bodiesAreFound() {
        edges.of(Edges.TERMS, "(Of an ask the BODY told for the KIND begins, else that of the nearest KIND that it is, too, "
            + "else the one that is lent; SIZE, MARK within others are asked of the same PAIR anew.)");
        // A stag has no SIZE of its own, brass no MARK: the nearest one's, which asks the PAIR anew.
        Run run = edges.housed("h0,1;f0;f20;s0,1,1;b0,1,1;o40,1,1;").due("ask(0, 0)", 0 + 0 + 1 - 1000);
        run.due("trace(0)", 11).due("trace(2)", 22).due("ask(1, 1)", 1 + 200).due("trace(0)", 23).due("trace(2)", 14);
        run.due("ask(2, 0)", -(40 + 2 * (2 + 1))).due("trace(0)", 12).due("trace(3)", 24);
        // Of what there is by then.
        run.does("days(2)", "move(2, 0)").due("ask(2, 0)", -(38 + 2 * 2)).does("undo()").due("ask(2, 1)", 6);
    }

    private void tracesAreLeft() {
        edges.of(Edges.TERMS, "ASKS of PAIRS, by BODIES, each of which leaves its number in THE TRACE as it begins (the first 16):");
        // No ask has more than six BODIES: what stood there before is gone, and there is never a seventh.
        Run run = edges.housed(FIVE).does("ask(1, 0)").due("trace(5)", 20).none("trace(6)").does("ask(3, 0)");
        dueTrace(run, 13, 10);
        run.none("trace(2)", "trace(5)").does("ask(1, 0)");
        dueTrace(run, 12, 11, 10, 24, 21, 20);
        for (int i = 6; i < 20; i++) run.none("trace(" + i + ")");
    }

    private void asksAreRefused() {
        edges.of(32, "An ASK (0, 1) of a PAIR. BAD. THE TRACE is empty ahead of it.");
        Run run = edges.fresh().bad("ask(0, 0)", "ask(0, 1)").none("trace(0)").reads(FIVE).does("ask(0, 0)", "ask(0, 1)");
        dueTrace(run, 21, 20);
        run.bad("ask(0, -1)", "ask(0, 2)", "ask(0, MIN)", "ask(0, MAX)", "ask(-1, 0)", "ask(5, 0)", "ask(MIN, 0)", "ask(MAX, 1)");
        dueTrace(run, 21, 20);
        run.does("ask(0, 0)", "ask(0, 0)");
        dueTrace(run, 11, 10, 21, 20);
    }

    private void tracesAreToldByNumber() {
        edges.of(33, "Number i of THE TRACE; NONE.");
        Run run = edges.fresh().none("trace(0)", "trace(-1)", "trace(15)", "trace(16)", "trace(MIN)", "trace(MAX)");
        run.reads(FIVE).none("trace(0)").does("ask(3, 0)").due("trace(0)", 13).due("trace(1)", 10);
        run.none("trace(2)", "trace(-1)", "trace(15)", "trace(16)", "trace(17)", "trace(MIN)", "trace(MAX)");
        run.does("days(1)", "undo()", "image(0)", "restore(0)", "as(0, 0)", "kind(0)").due("trace(1)", 10);
        run.reads(FIVE).due("trace(0)", 13).none("trace(2)");
    }

    private void allIsCounted() {
        edges.of(34, "How many: 0 ROWS, 1 HEARTHS, 2 PAIRS, 3 DAY, 4 WARM, 5 TAKES, 6 what is LIT (bits), 7 PAIRS (bits) "
            + "whose PEGS are in, 8 ACTS that can be undone, 9 bytes on the tape.");
        Run run = edges.housed("h13,7;f3;f0;f2;l20,0,1;o15,2,1;s9,1,0;t7,0,1;");
        run.does("row(2, 1, 0)", "row(3, 1, 4)", "days(2)", "weather(14)", "feed(7)");
        int[] due = {2, 3, 4, 2, 14, 7, 1, 1 + 2 + 8, 3, 1};
        for (int what = 0; what < due.length; what++) run.due("count(" + what + ")", due[what]);
        Run most = edges.housed("h15,9;f20;f20;f20;f20;f20;f20;f20;f20;l0,7,1;l0,7,1;l0,7,1;l0,7,1;l0,7,1;l0,7,1;");
        most.reads("h15,9;f9;f9;f9;f9;f9;f9;f9;f9;l0,7,1;l0,7,1;l0,7,1;l0,7,1;l0,7,1;l0,7,1;l0,7,1;");
        most.due("count(1)", 8).due("count(2)", 7).due("count(4)", 15).due("count(5)", 9).due("count(6)", 255);
        most.due("count(7)", 127).due("count(8)", 0).due("count(9)", 0);
        for (int row = 0; row < 8; row++) most.does("row(" + row + ", 0, 0)");
        most.due("count(0)", 8);
    }

    private void countIsRefused() {
        edges.of(34, "BAD.");
        Run none = edges.fresh().bad("count(-1)", "count(10)", "count(MIN)", "count(MAX)");
        for (int what = 0; what < 10; what++) none.due("count(" + what + ")", 0);
        edges.housed(FIVE).bad("count(-1)", "count(10)", "count(MIN)", "count(MAX)").due("count(9)", 0).due("count(0)", 0);
    }
}
