/** Part 3 from what is FORETOLD up to RESTS, promises 17 to 24. */
final class EdgesOfForetold {
    private final Edges edges;

    EdgesOfForetold(Edges edges) {
        this.edges = edges;
    }

    void all() {
        daysOnAreSixty();
        breathIsForetold();
        fireIsForetold();
        litIsForetold();
        thePairThatIsEmptyFirst();
        emptyIsRefused();
        theDayThatIsColdFirst();
        theBestDay();
        bestIsRefused();
        theFewestDrawn();
        theLeastOfSeveralDrawn();
        drawIsRefused();
        waitsAreNoneToFour();
        neitherWouldGetMore();
        restsAreRefused();
    }

    private void daysOnAreSixty() {
        edges.of(Edges.TERMS, "FORETOLD (nothing changes) d DAYS on (0 to 60): BREATH of a PAIR; FIRE of a HEARTH; "
            + "HEARTHS (bits) that are LIT.");
        Run run = edges.housed("h15,1;f20;f0;t40,0,0;t1,0,0;b1,1,1;");
        run.due("breath(2, 0)", 1).due("breath(2, 39)", 40).due("breath(2, 60)", 40).bad("breath(2, -1)", "breath(2, 61)");
        run.due("fire(0, 0)", 20).due("fire(0, 60)", 1).bad("fire(0, -1)", "fire(0, 61)");
        run.due("lit(0)", 1).due("lit(60)", 1).bad("lit(-1)", "lit(61)").due("count(3)", 0);
        // From any DAY on: those passed count no more.
        run.does("days(1)").due("fire(0, 59)", 1).due("fire(0, 60)", 0).due("lit(60)", 0).bad("fire(0, 61)");
        run.due("count(3)", 1).due("count(8)", 1);
    }

    private void breathIsForetold() {
        edges.of(17, "BREATH of a PAIR. BAD.");
        Run run = edges.housed("h1,1;f0;f0;l5,0,1;o40,1,1;").due("breath(0, 0)", 5).due("breath(0, 1)", 4);
        run.due("breath(0, 4)", 4).due("breath(0, 5)", 3).due("breath(0, 16)", 1).due("breath(0, 17)", 0);
        run.due("breath(0, 60)", 0).due("breath(1, 60)", 0).due("breath(1, 4)", 34).due("breath(1, 26)", 0);
        run.bad("breath(-1, 0)", "breath(2, 0)", "breath(MIN, 0)", "breath(MAX, 0)", "breath(2, 61)");
        run.bad("breath(0, -1)", "breath(0, 61)", "breath(0, MIN)", "breath(0, MAX)");
        run.does("days(2)").due("breath(0, 2)", 4).due("breath(0, 3)", 3);
        edges.fresh().bad("breath(0, 0)", "breath(0, 61)");
    }

    private void fireIsForetold() {
        edges.of(18, "FIRE of a HEARTH. BAD.");
        Run run = edges.housed("h0,1;f5;f0;t6,1,0;").due("fire(1, 0)", 0).due("fire(1, 1)", 4).due("fire(1, 2)", 5);
        run.due("fire(1, 6)", 1).due("fire(1, 7)", 0).due("fire(1, 60)", 0).due("fire(0, 4)", 1).due("fire(0, 5)", 0);
        run.bad("fire(-1, 0)", "fire(2, 0)", "fire(MIN, 0)", "fire(MAX, 0)", "fire(2, 61)");
        run.bad("fire(0, -1)", "fire(0, 61)", "fire(0, MIN)", "fire(0, MAX)");
        edges.fresh().bad("fire(0, 0)", "fire(0, 61)");
    }

    private void litIsForetold() {
        edges.of(19, "What is LIT (bits). BAD; STATE: no HOUSE (ahead of BAD).");
        Run run = edges.housed("h0,1;f5;f0;f0;f0;f0;f0;f0;f10;t6,1,0;").due("lit(0)", 129).due("lit(1)", 195);
        run.due("lit(2)", 131).due("lit(5)", 130).due("lit(7)", 128).due("lit(10)", 0).due("lit(60)", 0);
        run.bad("lit(-1)", "lit(61)", "lit(MIN)", "lit(MAX)");
        edges.fresh().state("lit(0)", "lit(60)", "lit(-1)", "lit(61)", "lit(MIN)", "lit(MAX)");
    }

    private void dueEmpty(String text, int pair, int days) {
        edges.housed(text).due("empty(0)", pair).due("empty(1)", days);
    }

    private void thePairThatIsEmptyFirst() {
        edges.of(Edges.TERMS, "EMPTY: the PAIR that has no BREATH first, of several the least; "
            + "behind how many DAYS (0 to 60); NONE.");
        int none = BellowsWords.NONE;
        dueEmpty("h15,1;f0;f0;l2,0,1;l1,0,1;", 1, 1);
        dueEmpty("h15,1;f0;f0;l1,0,1;l2,0,1;", 0, 1);
        dueEmpty("h15,1;f0;f0;t1,0,1;l2,0,1;l2,0,1;", 1, 2);
        dueEmpty("h15,1;f0;f0;t1,0,1;t0,0,1;t0,0,1;", 1, 0);
        dueEmpty("h15,1;f0;f0;t1,0,1;l1,0,1;t0,0,0;", 2, 0);
        dueEmpty("h15,1;f0;f0;b0,0,1;", 0, 0);
        dueEmpty("h15,1;f0;f0;t4,0,1;t4,0,1;t5,0,0;t5,0,1;t9,0,1;t9,0,1;t4,0,0;", 6, 1);
        // Warm on the last of four DAYS: the 15th of them is the 60th DAY, the 16th the 64th.
        dueEmpty("h8,1;f0;f0;l15,0,1;", 0, 60);
        dueEmpty("h8,1;f0;f0;l16,0,1;", none, none);
        edges.housed("h8,1;f0;f0;l16,0,1;").does("days(3)").none("empty(0)", "empty(1)").does("days(1)")
            .due("empty(1)", 60);
        dueEmpty("h15,1;f0;f0;t1,0,1;b1,0,1;", none, none);
        dueEmpty("h15,1;f0;f0;", none, none);
    }

    private void emptyIsRefused() {
        edges.of(20, "EMPTY: the PAIR (what = 0), behind how many DAYS (1); NONE.");
        edges.housed("h0,1;f0;f0;t9,0,1;t7,0,0;").due("empty(0)", 1).due("empty(1)", 2);
        edges.housed("h0,1;f0;f0;t9,0,1;t7,0,1;").none("empty(0)", "empty(1)");
        edges.of(20, "BAD; STATE: no HOUSE (ahead of BAD).");
        edges.housed("h0,1;f0;f0;t0,0,1;").bad("empty(-1)", "empty(2)", "empty(MIN)", "empty(MAX)");
        edges.housed("h0,1;f0;f0;").bad("empty(-1)", "empty(2)");
        edges.fresh().state("empty(0)", "empty(1)", "empty(-1)", "empty(2)", "empty(MAX)");
    }

    private void theDayThatIsColdFirst() {
        edges.of(Edges.TERMS, "COLD: behind how many DAYS (0 to 60) a HEARTH is not LIT first; NONE.");
        edges.housed("h0,9;f0;f1;f2;").due("cold(0)", 0).due("cold(1)", 1).due("cold(2)", 2);
        edges.housed("h0,1;f20;f0;t40,0,0;").due("cold(0)", 60);
        edges.housed("h0,1;f20;f0;t40,0,0;t1,0,0;").none("cold(0)");
        edges.housed("h0,1;f20;f0;t40,0,0;t1,0,0;").does("days(1)").due("cold(0)", 60);
        // It is the first time that counts, though it catches again.
        edges.housed("h0,9;f20;f1;").due("cold(1)", 1).due("fire(1, 2)", 1);
        edges.housed("h0,4;f0;f0;t4,0,0;").due("cold(0)", 0).due("fire(0, 1)", 4);
        edges.of(21, "COLD; NONE. BAD.");
        Run run = edges.housed("h0,1;f20;f0;t40,0,0;t1,0,0;").none("cold(0)").due("cold(1)", 0);
        run.bad("cold(-1)", "cold(2)", "cold(MIN)", "cold(MAX)");
        edges.fresh().bad("cold(0)", "cold(-1)");
    }

    private void dueBest(String text, int n, int k, int most) {
        edges.housed(text).due("best(0, " + n + ", 0)", k).due("best(0, " + n + ", 1)", most);
    }

    private void theBestDay() {
        edges.of(Edges.TERMS, "BEST for a PAIR, n DAYS (1 to 30): its PEG is put in now, and drawn behind k DAYS (0 to n less 1), "
            + "so that most FIRE is in its HEARTH behind all n, of several the least k: k; how much.");
        for (String peg : new String[] {"0", "1"}) {
            // All BREATH goes on one DAY: best on the last.
            dueBest("h0,4;f0;f0;t4,0," + peg + ";", 1, 0, 4);
            dueBest("h0,4;f0;f0;t4,0," + peg + ";", 2, 1, 4);
            dueBest("h0,4;f0;f0;t4,0," + peg + ";", 30, 29, 4);
            dueBest("h0,1;f0;f0;t8,0," + peg + ";", 2, 0, 7);
            dueBest("h0,1;f0;f0;t8,0," + peg + ";", 3, 1, 7);
            dueBest("h0,1;f0;f0;t8,0," + peg + ";", 30, 28, 7);
            // It burns meanwhile all the same: each DAY is as good.
            dueBest("h0,1;f20;f0;t4,0," + peg + ";", 2, 0, 22);
            dueBest("h0,1;f20;f0;t4,0," + peg + ";", 20, 0, 4);
            // Nothing comes of it, whenever.
            dueBest("h0,5;f0;f0;t40,0," + peg + ";", 30, 0, 0);
            // It leaks meanwhile.
            dueBest("h15,4;f0;f0;l5,0," + peg + ";", 3, 0, 3);
            dueBest("h15,4;f0;f0;l4,0," + peg + ";", 2, 0, 3);
            dueBest("h8,4;f0;f0;l4,0," + peg + ";", 5, 3, 3);
            // Brass has more by waiting.
            dueBest("h15,4;f0;f0;b3,0," + peg + ";", 1, 0, 0);
            dueBest("h15,4;f0;f0;b3,0," + peg + ";", 2, 1, 4);
        }
        // The other PAIRS go on as they are: drawn or not.
        dueBest("h0,8;f0;f0;t4,0,1;t8,0,0;", 2, 0, 11);
        dueBest("h0,8;f0;f0;t4,0,1;t8,0,1;", 2, 0, 0);
        // FIRE is 99 at most, whichever DAY: the least.
        edges.housed("h0,1;f20;f0;t40,0,1;t40,0,0;t40,0,0;t40,0,0;t40,0,0;t40,0,0;t40,0,0;")
            .due("best(0, 10, 0)", 0).due("best(0, 10, 1)", 99);
    }

    private void bestIsRefused() {
        edges.of(22, "BEST: k (what = 0), how much (1). BAD.");
        Run run = edges.housed("h0,1;f0;f0;t8,1,1;t4,0,1;").due("best(0, 3, 0)", 1).due("best(0, 3, 1)", 7);
        run.due("best(1, 1, 0)", 0).due("best(1, 1, 1)", 4).due("best(1, 30, 0)", 29).due("best(1, 30, 1)", 4);
        run.bad("best(0, 0, 0)", "best(0, 31, 0)", "best(0, -1, 0)", "best(0, MIN, 0)", "best(0, MAX, 0)");
        run.bad("best(0, 1, -1)", "best(0, 1, 2)", "best(0, 1, MIN)", "best(0, 1, MAX)");
        run.bad("best(-1, 1, 0)", "best(2, 1, 0)", "best(MIN, 1, 0)", "best(MAX, 1, 0)");
        edges.fresh().bad("best(0, 1, 0)", "best(0, 31, 0)");
    }

    private void dueDraw(String text, int n, int many, int which) {
        edges.housed(text).due("draw(" + n + ", 0)", many).due("draw(" + n + ", 1)", which);
    }

    private void theFewestDrawn() {
        edges.of(Edges.TERMS, "DRAW for n DAYS (1 to 30): the fewest PAIRS whose PEGS are drawn now "
            + "(those drawn already count, too, if they are taken) so that all HEARTHS are LIT behind them:");
        int none = BellowsWords.NONE;
        dueDraw("h0,9;f2;f2;", 1, 0, 0);
        dueDraw("h0,9;f2;f2;", 2, none, none);
        dueDraw("h0,9;f2;f2;t9,0,1;", 1, 0, 0);
        dueDraw("h0,4;f0;f0;t4,0,1;t4,1,1;", 1, 2, 3);
        dueDraw("h0,4;f0;f0;t4,0,1;t4,1,1;", 4, 2, 3);
        dueDraw("h0,4;f0;f0;t4,0,1;t4,1,1;", 5, none, none);
        dueDraw("h0,5;f0;f0;t40,0,1;t40,1,1;", 1, none, none);
        // Drawn already, and not taken, they go on: nothing more is needed.
        dueDraw("h0,4;f0;f0;t4,0,0;t4,1,1;", 1, 1, 2);
        dueDraw("h0,4;f0;f0;t4,0,0;t4,1,0;", 1, 0, 0);
        // All seven are needed: 9 into each of the outer two, what is left catches.
        dueDraw("h0,9;f0;f20;t1,0,1;t1,0,1;t1,0,1;t1,0,1;t1,0,1;t1,0,1;t3,0,1;", 2, 7, 127);
        // Behind 29 DAYS the second has just caught from the first, behind 30 it is out again.
        dueDraw("h0,1;f20;f20;t40,0,1;t40,1,1;", 29, 1, 1);
        dueDraw("h0,1;f20;f20;t40,0,1;t40,1,1;", 30, 2, 3);
        edges.housed("h0,1;f20;f20;t40,0,1;t40,1,1;").bad("draw(31, 0)", "draw(31, 1)", "draw(0, 0)", "draw(0, 1)");
    }

    private void theLeastOfSeveralDrawn() {
        edges.of(Edges.TERMS, "how many; which (bits), of several the least; NONE.");
        dueDraw("h0,4;f9;f0;t4,1,1;t4,1,1;t4,1,1;", 1, 1, 1);
        dueDraw("h0,4;f9;f0;t3,1,1;t4,1,1;t4,1,1;", 1, 1, 2);
        dueDraw("h0,4;f9;f0;t3,1,1;t1,1,1;t3,1,1;", 1, 2, 3);
        dueDraw("h0,6;f9;f0;t3,1,1;t1,1,1;t3,1,1;", 1, 2, 5);
        // One PAIR of a higher number comes ahead of two of lower ones.
        dueDraw("h0,4;f9;f0;t2,1,1;t2,1,1;t3,1,1;t4,1,1;", 1, 1, 8);
        dueDraw("h0,8;f9;f0;t2,1,1;t2,1,1;t4,1,1;t4,1,1;t4,1,1;", 1, 2, 12);
        dueDraw("h0,1;f9;f0;t0,1,1;t0,1,1;t0,1,1;t0,1,1;t0,1,1;t0,1,1;t1,1,1;", 1, 1, 64);
        dueDraw("h0,1;f9;f0;t0,1,1;", 1, BellowsWords.NONE, BellowsWords.NONE);
    }

    private void drawIsRefused() {
        edges.of(23, "DRAW: how many (what = 0), which (1); NONE.");
        edges.housed("h0,4;f0;f0;t9,1,1;t4,1,1;t4,0,1;").due("draw(1, 0)", 2).due("draw(1, 1)", 5);
        edges.housed("h0,4;f0;f0;t4,0,1;").none("draw(1, 0)", "draw(1, 1)", "draw(30, 0)", "draw(30, 1)");
        edges.of(23, "BAD; STATE: no HOUSE (ahead of BAD).");
        Run run = edges.housed("h0,4;f0;f0;t4,0,1;").bad("draw(0, 0)", "draw(31, 0)", "draw(MIN, 0)", "draw(MAX, 0)");
        run.bad("draw(1, -1)", "draw(1, 2)", "draw(1, MIN)", "draw(1, MAX)", "draw(-1, 0)");
        edges.fresh().state("draw(1, 0)", "draw(30, 1)", "draw(0, 0)", "draw(31, 0)", "draw(1, 2)", "draw(1, -1)");
    }

    private void waitsAreNoneToFour() {
        edges.of(Edges.TERMS, "WAIT of two PAIRS, n DAYS (5 to 20): each waits 0 to 4 DAYS (its PEG is put in now, "
            + "drawn behind these; all else as it is); to each the FIRE of its HEARTH behind n.");
        for (String pegs : new String[] {"00", "01", "10", "11"}) {
            char one = pegs.charAt(0);
            char other = pegs.charAt(1);
            // The later the better: 4 and 4. One with twice the BREATH begins a DAY earlier.
            Run late = edges.housed("h0,1;f0;f0;t4,0," + one + ";t4,1," + other + ";");
            late.due("rests(0, 1, 5, -1)", 1).due("rests(0, 1, 5, 0)", 44).none("rests(0, 1, 5, 1)");
            late.due("rests(1, 0, 5, 0)", 44).bad("rests(0, 1, 4, 0)");
            Run twice = edges.housed("h0,1;f0;f0;t4,0," + one + ";t8,1," + other + ";");
            twice.due("rests(0, 1, 5, -1)", 1).due("rests(0, 1, 5, 0)", 43).due("rests(1, 0, 5, 0)", 34);
            Run soon = edges.housed("h0,1;f0;f0;t20,0," + one + ";t16,1," + other + ";");
            soon.due("rests(0, 1, 5, -1)", 1).due("rests(0, 1, 5, 0)", 1).due("rests(1, 0, 5, 0)", 10);
        }
        Run most = edges.housed("h0,1;f20;f0;t4,0,1;t4,1,1;").bad("rests(0, 1, 21, 0)");
        // Behind 20 DAYS what the second blew is out, whenever; the first is as it is, whenever.
        most.due("rests(0, 1, 20, -1)", 25).due("rests(0, 1, 20, 24)", 44).none("rests(0, 1, 20, 25)");
        // All else as it is: a third PAIR that is drawn blows with the first.
        edges.housed("h0,8;f0;f0;t4,0,1;t4,1,1;t4,0,0;").due("rests(0, 1, 5, -1)", 5).due("rests(0, 1, 5, 0)", 0)
            .due("rests(0, 1, 5, 4)", 4);
        edges.housed("h0,8;f0;f0;t4,0,1;t4,1,1;t4,0,1;").due("rests(0, 1, 5, -1)", 25);
    }

    private void neitherWouldGetMore() {
        edges.of(Edges.TERMS, "RESTS: waits i, j (10 i and j) such that neither would get more by another wait, "
            + "the other one's being as it is: how many; the k-th (rising); NONE: fewer.");
        // Too little each by itself: they rest where they blow together.
        Run both = edges.housed("h0,8;f0;f0;t4,0,1;t4,0,1;").due("rests(0, 1, 5, -1)", 5);
        for (int wait = 0; wait < 5; wait++) both.due("rests(0, 1, 5, " + wait + ")", 11 * wait);
        both.none("rests(0, 1, 5, 5)", "rests(0, 1, 5, MAX)");
        // Nothing comes of any wait: all rest, as none is more.
        Run all = edges.housed("h0,9;f0;f0;t4,0,1;t4,1,1;").due("rests(0, 1, 5, -1)", 25);
        for (int k = 0; k < 25; k++) all.due("rests(0, 1, 5, " + k + ")", k / 5 * 10 + k % 5);
        all.none("rests(0, 1, 5, 25)", "rests(0, 1, 5, 26)", "rests(0, 1, 5, MAX)");
    }

    private void restsAreRefused() {
        edges.of(24, "RESTS: how many (k = -1), the k-th; NONE.");
        Run run = edges.housed("h0,1;f0;f0;t4,0,1;t8,1,0;").due("rests(0, 1, 5, -1)", 1).due("rests(0, 1, 5, 0)", 43);
        run.none("rests(0, 1, 5, 1)", "rests(0, 1, 5, 24)", "rests(0, 1, 5, MAX)");
        edges.of(24, "BAD (one and the same, k below -1, too).");
        run.bad("rests(0, 0, 5, 0)", "rests(1, 1, 5, -1)", "rests(0, 1, 5, -2)", "rests(0, 1, 5, MIN)");
        run.bad("rests(-1, 1, 5, 0)", "rests(0, -1, 5, 0)", "rests(2, 1, 5, 0)", "rests(0, 2, 5, 0)");
        run.bad("rests(0, 1, 4, 0)", "rests(0, 1, 21, 0)", "rests(0, 1, MIN, 0)", "rests(0, 1, MAX, 0)");
        run.bad("rests(MIN, MAX, 5, 0)", "rests(2, 2, 5, 0)", "rests(0, 1, 4, -1)", "rests(0, 1, 21, -1)");
        edges.fresh().bad("rests(0, 1, 5, 0)", "rests(0, 1, 5, -1)", "rests(0, 0, 5, -1)");
        edges.housed("h0,1;f0;f0;t4,0,1;").bad("rests(0, 1, 5, -1)", "rests(0, 0, 5, -1)");
    }
}
