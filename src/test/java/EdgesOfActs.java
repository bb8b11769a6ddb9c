/** Part 2 as far as ACTS go, promises 9 to 14, 28 and 29. */
final class EdgesOfActs {
    private static final String THREE = "h9,1;f7;f0;f0;t9,0,1;t9,1,0;l9,2,1;";

    private final Edges edges;

    EdgesOfActs(Edges edges) {
        this.edges = edges;
    }

    void all() {
        actsAreTwentyFour();
        theOldestIsForgottenWhateverItIs();
        actsAreOfFiveKinds();
        actsAsItIsAlready();
        daysAreOneToTwentyFour();
        daysEndAtTheLast();
        pegsAreDrawnAndPutIn();
        pairsAreMoved();
        firesAreLit();
        weatherIsOther();
        theLatestIsUndone();
        imagesAreKept();
        imagesAreRefused();
        housesAreAsImagesKeptThem();
    }

    private void actsAreTwentyFour() {
        edges.of(Edges.TERMS, "ACTS (24 at most are kept, of more the oldest is forgotten; each can be undone, the latest first):");
        for (int acts = 22; acts <= 27; acts++) {
            Run run = edges.housed("h15,1;f0;f0;l40,0,1;");
            for (int i = 0; i < acts; i++) run.does("days(1)").due("count(8)", Math.min(i + 1, 24));
            int kept = Math.min(acts, 24);
            for (int left = kept - 1; left >= 0; left--) {
                run.due("undo()", left).due("count(8)", left);
                run.due("count(3)", acts - kept + left).due("pair(0, 0)", 40 - (acts - kept + left));
            }
            run.state("undo()").due("count(3)", acts - kept).due("count(8)", 0);
        }
        Run run = edges.housed("h15,1;f0;f0;l40,0,1;").does("days(24)", "days(24)").due("count(8)", 24);
        for (int i = 0; i < 24; i++) run.does("undo()");
        run.state("undo()").due("count(3)", 24).due("pair(0, 0)", 16).does("days(3)").due("count(8)", 3);
        run.due("undo()", 2).due("undo()", 1).due("undo()", 0).state("undo()").due("count(3)", 24);
    }

    private void theOldestIsForgottenWhateverItIs() {
        edges.of(Edges.TERMS, "of more the oldest is forgotten;");
        String[] oldest = {"peg(0, 0)", "move(0, 2)", "light(0, 3)", "weather(6)", "days(1)"};
        String[] told = {"pair(0, 2)", "pair(0, 1)", "hearth(0, 0)", "count(4)", "count(3)"};
        int[] before = {1, 0, 7, 9, 0};
        int[] behind = {0, 2, 3, 6, 1};
        for (int i = 0; i < oldest.length; i++) {
            for (int others : new int[] {23, 24}) {
                Run run = edges.housed(THREE).does(oldest[i]);
                for (int k = 0; k < others; k++) run.does("peg(1, " + (1 - k % 2) + ")");
                for (int k = 0; k < 24; k++) run.does("undo()");
                run.state("undo()").due(told[i], others == 23 ? before[i] : behind[i]).due("pair(1, 2)", 0);
            }
        }
    }

    private void actsAreOfFiveKinds() {
        edges.of(Edges.TERMS, "a DAY; a PEG is drawn, or put in; a PAIR is moved to a HEARTH; FIRE of a HEARTH, WARM is another.");
        Run run = edges.housed(THREE).does("days(2)").due("count(8)", 2).does("peg(0, 0)").due("count(8)", 3);
        run.does("peg(1, 1)").due("count(8)", 4).does("move(2, 0)").due("count(8)", 5);
        run.does("light(2, 20)").due("count(8)", 6).does("weather(0)").due("count(8)", 7);
        run.due("undo()", 6).due("count(4)", 9).due("hearth(2, 0)", 20).due("undo()", 5).due("hearth(2, 0)", 0);
        run.due("pair(2, 1)", 0).due("undo()", 4).due("pair(2, 1)", 2).due("count(7)", 6).due("undo()", 3);
        run.due("count(7)", 4).due("undo()", 2).due("count(7)", 5).due("count(3)", 2).due("undo()", 1);
        run.due("count(3)", 1).due("hearth(1, 0)", 4).due("undo()", 0).due("count(3)", 0).due("hearth(1, 0)", 0);
        run.due("pair(1, 0)", 9).due("pair(2, 0)", 9).due("hearth(0, 0)", 7).state("undo()");
        // What is only told, asked, kept or refused is no ACT.
        run.does("image(0)", "lit(9)", "best(0, 9, 0)", "draw(9, 0)", "drawn(9, 1, 0)", "ask(0, 0)", "row(0, 0, 1)");
        run.does("feed(1)", "house()", "peg(0, 1)", "move(0, 0)", "light(0, 21)", "weather(16)", "days(25)");
        run.due("count(8)", 0).state("undo()");
    }

    private void actsAsItIsAlready() {
        edges.of(Edges.TERMS, "FIRE of a HEARTH, WARM is another.");
        // The document tells no STATE for these: what is not refused is an ACT.
        Run run = edges.housed(THREE).due("light(0, 7)", 7).due("count(8)", 1).due("weather(9)", 9).due("count(8)", 2);
        run.due("undo()", 1).due("undo()", 0).due("hearth(0, 0)", 7).due("count(4)", 9);
    }

    private void daysAreOneToTwentyFour() {
        edges.of(9, "n DAYS (1 to 24), an ACT each: HEARTHS (bits) that are LIT then.");
        Run run = edges.housed("h0,9;f20;f3;").due("days(1)", 3).due("count(8)", 1).due("count(3)", 1);
        run.due("days(2)", 1).due("count(8)", 3).due("days(17)", 0).due("count(8)", 20).due("count(3)", 20);
        edges.housed("h0,9;f20;f3;").due("days(24)", 0).due("count(3)", 24).due("count(8)", 24);
        edges.of(9, "BAD; STATE: no HOUSE (ahead of BAD);");
        run.bad("days(0)", "days(25)", "days(-1)", "days(MIN)", "days(MAX)").due("count(3)", 20);
        edges.fresh().state("days(1)", "days(24)", "days(0)", "days(25)", "days(MIN)", "days(MAX)");
    }

    private void daysEndAtTheLast() {
        edges.of(9, "FULL: beyond DAY 9999.");
        Run run = edges.housed("h8,9;f0;f0;b0,0,1;");
        for (int i = 0; i < 416; i++) run.does("days(24)");
        run.due("count(3)", 9984).full("days(16)", "days(24)").due("count(3)", 9984).due("count(8)", 24);
        run.bad("days(25)", "days(MAX)").does("weather(0)", "peg(0, 0)", "days(10)", "peg(0, 1)", "weather(8)");
        run.due("pair(0, 0)", 0).due("count(3)", 9994).full("days(6)").due("days(5)", 0).due("count(3)", 9999);
        run.due("pair(0, 0)", 1).full("days(1)", "days(24)").bad("days(0)", "days(25)").due("count(3)", 9999);
        run.due("pair(0, 3)", 1).due("breath(0, 1)", 2).due("breath(0, 60)", 16).due("lit(60)", 0);
        run.due("undo()", 23).due("count(3)", 9998).full("days(2)").due("days(1)", 0).full("days(1)");
        run.due("image(0)", 1).reads("h0,1;f0;f0;").due("days(24)", 0).due("restore(0)", 1).full("days(1)");
        run.due("drawn(0, 1, 1)", 1).due("drawn(60, 1, 0)", 0).due("cold(0)", 0).due("count(3)", 9999);
    }

    private void pegsAreDrawnAndPutIn() {
        edges.of(10, "The PEG of a PAIR is put in (1), drawn (0): PAIRS (bits) whose PEGS are in.");
        Run run = edges.housed(THREE).due("count(7)", 5).due("peg(0, 0)", 4).due("pair(0, 2)", 0);
        run.due("peg(1, 1)", 6).due("pair(1, 2)", 1).due("peg(2, 0)", 2).due("peg(1, 0)", 0).due("peg(2, 1)", 4);
        edges.of(10, "BAD; STATE: it is so.");
        run = edges.housed(THREE).state("peg(0, 1)", "peg(1, 0)", "peg(2, 1)").due("count(7)", 5).due("count(8)", 0);
        run.bad("peg(-1, 0)", "peg(3, 0)", "peg(MIN, 0)", "peg(MAX, 1)", "peg(3, 2)");
        run.bad("peg(0, -1)", "peg(0, 2)", "peg(0, MIN)", "peg(0, MAX)").due("count(7)", 5);
        run.due("peg(0, 0)", 4).state("peg(0, 0)").due("peg(0, 1)", 5).state("peg(0, 1)").due("count(8)", 2);
        edges.fresh().bad("peg(0, 0)", "peg(0, 1)", "peg(0, 2)");
        edges.housed("h0,1;f0;f0;").bad("peg(0, 0)", "peg(0, 1)");
    }

    private void pairsAreMoved() {
        edges.of(11, "A PAIR is moved to a HEARTH: where it was.");
        Run run = edges.housed(THREE).due("move(0, 2)", 0).due("pair(0, 1)", 2).due("hearth(2, 2)", 5);
        run.due("move(0, 1)", 2).due("move(0, 0)", 1).due("hearth(0, 2)", 1).due("count(8)", 3);
        edges.of(11, "BAD; STATE: it is there.");
        run.state("move(0, 0)", "move(1, 1)", "move(2, 2)").due("count(8)", 3);
        run.bad("move(-1, 0)", "move(3, 0)", "move(MIN, 0)", "move(MAX, 0)", "move(3, 3)");
        run.bad("move(0, -1)", "move(0, 3)", "move(0, MIN)", "move(0, MAX)").due("pair(0, 1)", 0).due("count(8)", 3);
        run.due("move(0, 2)", 0).state("move(0, 2)").due("move(1, 2)", 1).due("hearth(2, 2)", 7);
        edges.fresh().bad("move(0, 0)", "move(0, 1)");
    }

    private void firesAreLit() {
        edges.of(12, "FIRE of a HEARTH is v (0 to 20): what it was. BAD.");
        Run run = edges.housed(THREE).due("light(0, 0)", 7).due("hearth(0, 1)", 0).due("light(0, 20)", 0);
        run.due("hearth(0, 0)", 20).due("light(2, 1)", 0).due("hearth(2, 1)", 1).due("count(6)", 5);
        run.bad("light(0, -1)", "light(0, 21)", "light(0, MIN)", "light(0, MAX)").due("hearth(0, 0)", 20);
        run.bad("light(-1, 0)", "light(3, 0)", "light(MIN, 0)", "light(MAX, 0)", "light(3, 21)").due("count(8)", 3);
        edges.fresh().bad("light(0, 0)", "light(0, 20)");
        Run more = edges.housed("h0,1;f20;f0;t40,0,0;t40,0,0;").does("days(4)").due("light(0, 20)", 48);
        more.due("undo()", 4).due("hearth(0, 0)", 48);
    }

    private void weatherIsOther() {
        edges.of(13, "WARM is v (0 to 15): what it was.");
        Run run = edges.housed(THREE).due("weather(0)", 9).due("pair(2, 3)", 0).due("weather(15)", 0);
        run.due("pair(2, 3)", -1).due("count(4)", 15).due("weather(1)", 15).due("count(8)", 3);
        edges.of(13, "BAD; STATE: no HOUSE (ahead of BAD).");
        run.bad("weather(-1)", "weather(16)", "weather(MIN)", "weather(MAX)").due("count(4)", 1).due("count(8)", 3);
        edges.fresh().state("weather(0)", "weather(15)", "weather(-1)", "weather(16)", "weather(MIN)").due("count(4)", 0);
    }

    private void theLatestIsUndone() {
        edges.of(14, "The latest ACT is undone: how many can be undone yet. STATE: none.");
        edges.fresh().state("undo()");
        Run run = edges.housed(THREE).state("undo()").does("peg(0, 0)", "light(0, 9)").due("undo()", 1);
        run.due("hearth(0, 0)", 7).due("count(7)", 4).due("undo()", 0).due("count(7)", 5).state("undo()", "undo()");
        run.does("days(3)", "undo()", "move(0, 2)").due("count(8)", 3).due("undo()", 2).due("pair(0, 1)", 0);
        run.due("count(3)", 2).due("undo()", 1).due("undo()", 0).due("count(3)", 0).state("undo()");
        // An undone ACT is gone: it is not done again.
        run.due("count(8)", 0).due("count(7)", 5).due("hearth(0, 0)", 7);
    }

    private void imagesAreKept() {
        edges.of(28, "An IMAGE (0, 1) is kept of the HOUSE: 1.");
        Run run = edges.housed(THREE).due("image(0)", 1).does("days(2)", "light(2, 5)").due("image(1)", 1);
        run.due("count(8)", 3).does("light(2, 9)").due("restore(0)", 1).due("hearth(2, 0)", 0).due("count(3)", 0);
        run.due("restore(1)", 1).due("hearth(2, 0)", 5).due("count(3)", 2);
        // A later one stands in place of the earlier one, and the other stays.
        run.does("light(2, 6)").due("image(0)", 1).does("light(2, 7)").due("restore(0)", 1).due("hearth(2, 0)", 6);
        run.due("restore(1)", 1).due("hearth(2, 0)", 5);
    }

    private void imagesAreRefused() {
        edges.of(28, "BAD; STATE: no HOUSE.");
        Run run = edges.fresh().state("image(0)", "image(1)").bad("image(-1)", "image(2)", "image(MIN)", "image(MAX)");
        run.state("restore(0)", "restore(1)").reads(THREE).bad("image(-1)", "image(2)").state("restore(0)", "restore(1)");
        run.due("image(1)", 1).state("restore(0)").due("restore(1)", 1).due("image(0)", 1).due("restore(0)", 1);
    }

    private void housesAreAsImagesKeptThem() {
        edges.of(29, "The HOUSE is as an IMAGE kept it (no ACT can be undone then): 1.");
        Run run = edges.housed(THREE).does("days(3)", "move(2, 1)", "image(0)").due("count(8)", 4);
        run.does("weather(2)", "peg(0, 0)", "move(0, 1)", "light(1, 3)", "days(20)").due("restore(0)", 1);
        run.due("count(8)", 0).state("undo()").due("count(1)", 3).due("count(2)", 3).due("count(3)", 3);
        run.due("count(4)", 9).due("count(5)", 1).due("count(7)", 5).due("pair(0, 1)", 0).due("pair(2, 1)", 1);
        run.due("pair(0, 0)", 9).due("pair(1, 0)", 0).due("pair(2, 0)", 8).due("hearth(0, 0)", 4).due("hearth(1, 0)", 7);
        run.due("days(1)", 3).due("count(8)", 1).due("undo()", 0).due("hearth(0, 0)", 4);
        run.reads("h3,5;f1;f1;f1;f1;b1,3,0;").due("restore(0)", 1).due("count(1)", 3).due("count(2)", 3);
        run.due("kind(0)", 4).due("kind(2)", 1).due("count(5)", 1).due("count(6)", 3).faults("x", 1, 0);
        run.due("restore(0)", 1).due("restore(0)", 1).due("hearth(1, 0)", 7).bad("hearth(3, 0)", "kind(3)");
        edges.of(29, "BAD; STATE: none was kept.");
        Run none = edges.fresh().bad("restore(-1)", "restore(2)", "restore(MIN)", "restore(MAX)");
        none.state("restore(0)", "restore(1)").reads(THREE).does("days(2)", "image(1)").state("restore(0)");
        none.bad("restore(-1)", "restore(2)").due("count(8)", 2).due("count(3)", 2).due("restore(1)", 1);
    }
}
