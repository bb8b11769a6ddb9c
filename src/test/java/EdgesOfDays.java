/** Part 2 as far as a DAY goes: BREATH, FIRE, and what of them is told by promises 15 and 16. */
final class EdgesOfDays {
    private final Edges edges;

    EdgesOfDays(Edges edges) {
        this.edges = edges;
    }

    void all() {
        hearthsAreLitByFire();
        daysGoByWhatThereIsAsTheyBegin();
        drawnPairsBlow();
        leatherLeaks();
        oldOnesLeak();
        stagsLeak();
        tinLeaksNothing();
        brassHasMore();
        blownTogether();
        litOnesBurn();
        coldOnesCatch();
        catchesBesideOnly();
        fireIsNinetyNineAtMost();
        dayIsOneMore();
        pairsAreTold();
        hearthsAreTold();
    }

    /** BREATH of PAIR 0 as the DAY begins is in the text; then its change, foretold and passed. */
    private void dueBreath(String text, int had, int then) {
        Run run = edges.housed(text).due("pair(0, 0)", had).due("pair(0, 3)", then - had);
        run.due("breath(0, 1)", then).does("days(1)").due("pair(0, 0)", then);
    }

    private void dueFire(String text, int hearth, int then) {
        Run run = edges.housed(text).due("fire(" + hearth + ", 1)", then).does("days(1)");
        run.due("hearth(" + hearth + ", 0)", then).due("hearth(" + hearth + ", 1)", then > 0 ? 1 : 0);
    }

    private void hearthsAreLitByFire() {
        edges.of(Edges.TERMS, "A HEARTH is LIT, if it has FIRE.");
        Run run = edges.housed("h0,9;f0;f1;f2;").due("hearth(0, 1)", 0).due("hearth(1, 1)", 1).due("hearth(2, 1)", 1);
        run.due("count(6)", 6).due("lit(0)", 6).due("lit(1)", 4).due("days(1)", 4).due("hearth(1, 1)", 0);
        run.due("count(6)", 4).due("days(1)", 0).due("count(6)", 0);
    }

    private void daysGoByWhatThereIsAsTheyBegin() {
        edges.of(Edges.TERMS, "A DAY, all by what there is as it begins:");
        // Beside it is 9 as the DAY ends, 12 as it ends, and what caught on the same DAY.
        edges.housed("h0,9;f10;f0;").due("days(1)", 3).due("hearth(0, 0)", 9);
        edges.housed("h0,9;f9;f0;t4,0,0;").due("days(1)", 1).due("hearth(0, 0)", 12).due("days(1)", 3);
        edges.housed("h0,9;f0;f9;t4,1,0;").due("days(1)", 2).due("hearth(1, 0)", 12).due("days(1)", 3);
        edges.housed("h0,9;f10;f0;f0;").due("days(1)", 3);
        edges.housed("h0,9;f0;f0;f10;").due("days(1)", 6);
        // A stag's HEARTH goes out, catches, or is lit by another PAIR on the very DAY.
        edges.housed("h15,9;f1;f0;s5,0,1;").does("days(1)").due("pair(0, 0)", 5).does("days(1)").due("pair(0, 0)", 4);
        edges.housed("h15,9;f0;f10;s5,0,1;").does("days(1)").due("pair(0, 0)", 4).does("days(1)").due("pair(0, 0)", 4);
        edges.housed("h15,1;f0;f0;t1,0,0;s5,0,1;").does("days(1)").due("pair(1, 0)", 4).due("hearth(0, 0)", 1);
        edges.housed("h15,1;f0;f0;s5,0,1;t1,0,0;").does("days(1)").due("pair(0, 0)", 4).due("hearth(0, 0)", 1);
    }

    private void drawnPairsBlow() {
        edges.of(Edges.TERMS, "a PAIR whose PEG is drawn BLOWS 4 of BREATH into its HEARTH (what it has, if that is less);");
        for (String sort : new String[] {"l", "o", "s", "t", "b"}) {
            for (int had : new int[] {0, 1, 2, 3, 4, 5, 39, 40}) {
                String text = "h15,1;f0;f0;" + sort + had + ",1,0;";
                int blown = Math.min(4, had);
                dueBreath(text, had, had - blown);
                dueFire(text, 1, blown);
                edges.housed(text).due("hearth(1, 3)", blown).due("hearth(0, 3)", 0);
            }
        }
        edges.housed("h0,1;f0;f0;t9,1,1;").due("hearth(1, 3)", 0).due("days(1)", 0);
    }

    private void leatherLeaks() {
        edges.of(Edges.TERMS, "one whose PEG is in LEAKS (BREATH is so much less, 0 at least): one of leather 1 on warm DAYS;");
        for (String fire : new String[] {"0", "5"}) {
            for (int had : new int[] {0, 1, 2, 40}) {
                dueBreath("h1,1;f" + fire + ";f0;l" + had + ",0,1;", had, Math.max(0, had - 1));
                dueBreath("h14,1;f" + fire + ";f0;l" + had + ",0,1;", had, had);
            }
        }
    }

    private void oldOnesLeak() {
        edges.of(Edges.TERMS, "an old one twice that, and 1;");
        for (String fire : new String[] {"0", "5"}) {
            for (int had : new int[] {0, 1, 2, 3, 4, 40}) {
                dueBreath("h1,1;f" + fire + ";f0;o" + had + ",0,1;", had, Math.max(0, had - 3));
                dueBreath("h14,1;f" + fire + ";f0;o" + had + ",0,1;", had, Math.max(0, had - 1));
            }
        }
    }

    private void stagsLeak() {
        edges.of(Edges.TERMS, "one with a stag what one of leather would, but nothing, if its HEARTH is LIT;");
        for (int had : new int[] {0, 1, 2, 40}) {
            dueBreath("h1,1;f0;f9;s" + had + ",0,1;", had, Math.max(0, had - 1));
            dueBreath("h1,1;f1;f0;s" + had + ",0,1;", had, had);
            dueBreath("h14,1;f0;f9;s" + had + ",0,1;", had, had);
            dueBreath("h14,1;f1;f0;s" + had + ",0,1;", had, had);
        }
    }

    private void tinLeaksNothing() {
        edges.of(Edges.TERMS, "one of tin nothing;");
        for (int had : new int[] {0, 1, 40}) {
            dueBreath("h15,1;f0;f0;t" + had + ",0,1;", had, had);
            dueBreath("h0,1;f5;f0;t" + had + ",0,1;", had, had);
        }
    }

    private void brassHasMore() {
        edges.of(Edges.TERMS, "one of brass has 1 more on warm DAYS (40 at most).");
        for (int had : new int[] {0, 1, 38, 39, 40}) {
            dueBreath("h1,1;f0;f0;b" + had + ",0,1;", had, Math.min(40, had + 1));
            dueBreath("h14,1;f0;f0;b" + had + ",0,1;", had, had);
        }
        edges.housed("h15,1;f0;f0;b38,0,1;").due("breath(0, 2)", 40).due("breath(0, 3)", 40).due("breath(0, 60)", 40);
    }

    /** PAIRS of tin, drawn, that BLOW so much into HEARTH 0, all together. */
    private static String blowing(int blown) {
        StringBuilder text = new StringBuilder();
        for (int left = blown; left > 0; left -= 4) text.append('t').append(Math.min(4, left)).append(",0,0;");
        return text.toString();
    }

    private void blownTogether() {
        edges.of(Edges.TERMS, "Then HEARTHS: what was BLOWN into it, all together, is more FIRE, if the HEARTH was LIT, "
            + "or that is TAKES or more; else it is lost.");
        for (int takes = 1; takes <= 9; takes++) {
            for (int blown = 0; blown <= 10; blown++) {
                dueFire("h0," + takes + ";f0;f0;" + blowing(blown), 0, blown >= takes ? blown : 0);
                dueFire("h0," + takes + ";f1;f0;" + blowing(blown), 0, blown);
                dueFire("h0," + takes + ";f7;f0;" + blowing(blown), 0, 6 + blown);
                edges.housed("h0," + takes + ";f0;f0;" + blowing(blown)).due("hearth(0, 3)", blown);
            }
        }
        // What is lost one DAY does not count on the next.
        edges.housed("h0,4;f0;f0;t6,0,0;t1,1,0;t3,1,0;").due("days(1)", 3).due("days(1)", 3);
        edges.housed("h0,5;f0;f0;t6,0,0;").due("days(1)", 0).due("days(1)", 0).due("pair(0, 0)", 0);
    }

    private void litOnesBurn() {
        edges.of(Edges.TERMS, "One that was LIT burns 1 less (what it had, before what is BLOWN; 0 at least).");
        dueFire("h0,9;f0;f0;", 0, 0);
        dueFire("h0,9;f1;f0;", 0, 0);
        dueFire("h0,9;f2;f0;", 0, 1);
        dueFire("h0,9;f20;f0;", 0, 19);
        dueFire("h0,9;f1;f0;t3,0,0;", 0, 3);
        dueFire("h0,3;f0;f0;t3,0,0;", 0, 3);
        edges.housed("h0,9;f2;f0;").due("lit(1)", 1).due("lit(2)", 0).due("fire(0, 2)", 0).due("fire(0, 60)", 0);
    }

    private void coldOnesCatch() {
        edges.of(Edges.TERMS, "One that was not LIT, into which less than TAKES was BLOWN, catches (FIRE 1), "
            + "if a HEARTH beside it had 10 of FIRE or more.");
        for (int takes = 1; takes <= 9; takes++) {
            for (int blown = 0; blown <= 9; blown++) {
                dueFire("h0," + takes + ";f0;f9;" + blowing(blown), 0, blown >= takes ? blown : 0);
                dueFire("h0," + takes + ";f0;f10;" + blowing(blown), 0, blown >= takes ? blown : 1);
            }
        }
        dueFire("h0,9;f1;f10;", 0, 0);
        dueFire("h0,9;f2;f20;", 0, 1);
        dueFire("h0,9;f10;f0;f10;", 1, 1);
        dueFire("h0,9;f10;f0;f9;", 1, 1);
        dueFire("h0,9;f9;f0;f10;", 1, 1);
        dueFire("h0,9;f9;f0;f9;", 1, 0);
    }

    private void catchesBesideOnly() {
        edges.of(Edges.TERMS, "if a HEARTH beside it had 10 of FIRE or more.");
        String[] fires = {"0", "0", "0", "0", "0", "0", "0", "0"};
        for (int hearths = 2; hearths <= 8; hearths++) {
            for (int h = 0; h < hearths; h++) {
                StringBuilder text = new StringBuilder("h0,9;");
                for (int i = 0; i < hearths; i++) text.append('f').append(i == h ? "10" : fires[i]).append(';');
                int beside = 1 << h | (h > 0 ? 1 << h - 1 : 0) | (h + 1 < hearths ? 1 << h + 1 : 0);
                edges.housed(text.toString()).due("lit(1)", beside).due("days(1)", beside);
                String nine = text.toString().replace("f10", "f9");
                edges.housed(nine).due("lit(1)", 1 << h).due("days(1)", 1 << h);
            }
        }
        // A HOUSE of more HEARTHS stood here before: what burned beside the last is no more.
        edges.housed("h0,9;f0;f0;f20;").reads("h0,9;f0;f0;").due("days(1)", 0);
    }

    private void fireIsNinetyNineAtMost() {
        edges.of(Edges.TERMS, "FIRE is 99 at most.");
        // 20, 47, 74; on the third DAY 24 and what the seventh has left.
        String six = "h0,1;f20;f0;t12,0,0;t12,0,0;t12,0,0;t12,0,0;t12,0,0;t12,0,0;";
        int[] third = {97, 98, 99, 99, 99};
        for (int left = 0; left <= 4; left++) {
            Run run = edges.housed(six + "t" + (8 + left) + ",0,0;").due("fire(0, 2)", 74).due("fire(0, 3)", third[left]);
            run.does("days(3)").due("hearth(0, 0)", third[left]).does("days(1)");
            run.due("hearth(0, 0)", third[left] - 1);
        }
        String seven = "h0,1;f20;f0;t40,0,0;t40,0,0;t40,0,0;t40,0,0;t40,0,0;t40,0,0;t40,0,0;";
        edges.housed(seven).does("days(10)").due("hearth(0, 0)", 99).due("days(1)", 3).due("hearth(0, 0)", 98);
    }

    private void dayIsOneMore() {
        edges.of(Edges.TERMS, "DAY is 1 more.");
        Run run = edges.housed("h0,1;f0;f0;");
        for (int day = 0; day < 9; day++) run.due("count(3)", day).does("days(1)");
        run.due("count(3)", 9).does("days(24)").due("count(3)", 33);
    }

    private void pairsAreTold() {
        edges.of(15, "Of a PAIR: 0 BREATH, 1 the HEARTH, 2 whether the PEG is in (1, 0), 3 by how much BREATH will be more "
            + "on this DAY, or less (below 0). BAD.");
        Run run = edges.housed("h1,1;f0;f0;f0;o9,2,1;b5,1,1;t3,2,0;");
        run.due("pair(0, 0)", 9).due("pair(0, 1)", 2).due("pair(0, 2)", 1).due("pair(0, 3)", -3);
        run.due("pair(1, 0)", 5).due("pair(1, 1)", 1).due("pair(1, 2)", 1).due("pair(1, 3)", 1);
        run.due("pair(2, 0)", 3).due("pair(2, 1)", 2).due("pair(2, 2)", 0).due("pair(2, 3)", -3);
        run.bad("pair(-1, 0)", "pair(3, 0)", "pair(MIN, 0)", "pair(MAX, 0)", "pair(3, 4)");
        run.bad("pair(0, -1)", "pair(0, 4)", "pair(0, MIN)", "pair(0, MAX)", "pair(2, 4)", "pair(-1, -1)");
        run.does("days(1)").due("pair(0, 3)", -1).due("pair(1, 3)", 0).due("pair(2, 3)", 0);
        edges.fresh().bad("pair(0, 0)", "pair(0, 3)", "pair(0, 4)");
        edges.housed("h1,1;f0;f0;").bad("pair(0, 0)", "pair(0, 1)", "pair(0, 2)", "pair(0, 3)");
    }

    private void hearthsAreTold() {
        edges.of(16, "Of a HEARTH: 0 FIRE, 1 whether it is LIT (1, 0), 2 PAIRS (bits) there, 3 what will be BLOWN into it "
            + "on this DAY. BAD.");
        Run run = edges.housed("h0,9;f0;f1;f20;t9,2,0;t3,0,0;t9,2,1;t1,2,0;");
        run.due("hearth(0, 0)", 0).due("hearth(0, 1)", 0).due("hearth(0, 2)", 2).due("hearth(0, 3)", 3);
        run.due("hearth(1, 0)", 1).due("hearth(1, 1)", 1).due("hearth(1, 2)", 0).due("hearth(1, 3)", 0);
        run.due("hearth(2, 0)", 20).due("hearth(2, 1)", 1).due("hearth(2, 2)", 13).due("hearth(2, 3)", 5);
        run.bad("hearth(-1, 0)", "hearth(3, 0)", "hearth(MIN, 0)", "hearth(MAX, 0)", "hearth(3, 4)");
        run.bad("hearth(0, -1)", "hearth(0, 4)", "hearth(0, MIN)", "hearth(0, MAX)", "hearth(-1, -1)");
        run.does("days(1)").due("hearth(0, 3)", 0).due("hearth(2, 3)", 4).does("move(0, 1)").due("hearth(1, 3)", 4);
        run.due("hearth(1, 2)", 1).due("hearth(2, 2)", 12).due("hearth(2, 3)", 0);
        edges.fresh().bad("hearth(0, 0)", "hearth(0, 2)", "hearth(0, 3)", "hearth(0, 4)");
    }
}
