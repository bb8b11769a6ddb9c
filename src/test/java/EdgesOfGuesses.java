/** Part 3 from what a row tells up to SUMMERS, promises 25 to 27. */
final class EdgesOfGuesses {
    private final Edges edges;

    EdgesOfGuesses(Edges edges) {
        this.edges = edges;
    }

    void all() {
        rowsTellUpToTwelveDays();
        rowsTellFromNowOn();
        sortsAreBitsOneToFive();
        warmsAreBitsOfSixteen();
        pegsAreBitsOfTwo();
        hadsAreNoneToForty();
        fitsFindsPlaces();
        fitsIsRefused();
        chancesAreOfUpToEightDays();
        chancesAreInLowestTerms();
        chanceIsRefused();
        summersGoByDraws();
        summersToggleOneOfThePairs();
        summersOfNoPairs();
        summersOfAll();
        drawnIsRefused();
    }

    /** ROW 0, of ints, tells these. */
    private static Run told(Run run, int... items) {
        run.does("row(0, 2, " + items.length + ")");
        for (int i = 0; i < items.length; i++) run.does("set(0, " + i + ", " + items[i] + ")");
        return run;
    }

    private void rowsTellUpToTwelveDays() {
        edges.of(Edges.TERMS, "A row tells BREATH of a PAIR behind each of n DAYS (1 to 12) from now on.");
        Run run = told(edges.housed("h15,1;f0;f0;l20,0,1;"), 19, 18, 17, 16, 15, 14, 13, 12, 11, 10, 9, 7);
        run.bad("fits(0, 0, 0, 0, 3)").due("fits(0, 0, 0, 1, 3)", 1).due("fits(0, 0, 0, 11, 3)", 1);
        run.due("fits(0, 0, 0, 12, 3)", 0).does("set(0, 11, 8)").due("fits(0, 0, 0, 12, 3)", 1);
        run.due("fits(0, 0, 0, 12, 4)", 20).due("fits(0, 0, 1, 11, 4)", 19).does("row(1, 2, 40)");
        run.bad("fits(0, 1, 0, 13, 3)").due("fits(0, 1, 0, 12, 3)", 2).due("fits(0, 1, 28, 12, 3)", 2);
        // Each of the DAYS counts, the first and the last, too.
        run.does("set(0, 0, 18)").due("fits(0, 0, 0, 12, 3)", 0).due("fits(0, 0, 1, 11, 3)", 1);
    }

    private void rowsTellFromNowOn() {
        edges.of(Edges.TERMS, "from now on. SORTS:");
        Run run = told(edges.housed("h1,1;f0;f0;l20,0,1;"), 19).due("fits(0, 0, 0, 1, 1)", 0xAAAA);
        run.due("fits(0, 0, 0, 1, 4)", 20).does("weather(0)", "days(1)", "weather(1)").due("fits(0, 0, 0, 1, 1)", 0xCCCC);
        run.due("fits(0, 0, 0, 1, 4)", 19).does("days(1)").due("fits(0, 0, 0, 1, 1)", 0xF0F0);
        run.does("days(1)").due("fits(0, 0, 0, 1, 1)", 0xFF00).does("days(1)").due("fits(0, 0, 0, 1, 1)", 0xAAAA);
    }

    private void dueSorts(String text, int sorts, int... items) {
        told(edges.housed(text), items).due("fits(0, 0, 0, " + items.length + ", 0)", sorts);
    }

    private void sortsAreBitsOneToFive() {
        edges.of(Edges.TERMS, "SORTS: KINDS (bits 1 to 5) of it by which it is so;");
        for (String sort : new String[] {"l", "o", "s", "t", "b"}) {
            dueSorts("h15,1;f0;f0;" + sort + "20,0,0;", 2 + 4 + 8 + 16 + 32, 16);
            dueSorts("h15,1;f0;f0;" + sort + "20,0,1;", 2 + 8, 19, 18);
            dueSorts("h15,1;f0;f0;" + sort + "20,0,1;", 4, 17, 14);
            dueSorts("h15,1;f1;f0;" + sort + "20,0,1;", 8, 20, 19);
            dueSorts("h15,1;f1;f0;" + sort + "20,0,1;", 8 + 16, 20);
            dueSorts("h15,1;f0;f0;" + sort + "20,0,1;", 16, 20);
            dueSorts("h15,1;f0;f0;" + sort + "20,0,1;", 32, 21, 22);
            dueSorts("h0,1;f0;f0;" + sort + "20,0,1;", 2 + 8 + 16 + 32, 20);
            dueSorts("h0,1;f0;f0;" + sort + "20,0,1;", 4, 19);
            dueSorts("h15,1;f0;f0;" + sort + "20,0,1;", 0, 18);
            dueSorts("h15,1;f0;f0;" + sort + "40,0,1;", 16 + 32, 40);
            dueSorts("h15,1;f0;f0;" + sort + "0,0,1;", 2 + 4 + 8 + 16, 0);
        }
        told(edges.housed("h15,1;f0;f0;l20,0,1;"), 17).due("fits(0, 0, 0, 1, 0)", 4).due("kind(0)", 1);
    }

    private void warmsAreBitsOfSixteen() {
        edges.of(Edges.TERMS, "WARMS (0 to 15, bits);");
        for (int warm = 0; warm < 16; warm++) {
            int[] items = new int[5];
            int breath = 20;
            for (int day = 0; day < 5; day++) {
                breath -= warm >> day % 4 & 1;
                items[day] = breath;
            }
            Run run = told(edges.housed("h6,1;f0;f0;l20,0,1;t9,0,1;"), items).due("fits(0, 0, 0, 5, 1)", 1 << warm);
            run.due("fits(0, 0, 0, 4, 1)", 1 << warm).due("count(4)", 6);
        }
        Run run = told(edges.housed("h6,1;f0;f0;l20,0,1;t9,0,1;"), 20, 19, 9, 21);
        run.due("fits(0, 0, 0, 1, 1)", 0x5555).due("fits(0, 0, 1, 1, 1)", 0xAAAA).due("fits(1, 0, 2, 1, 1)", 0xFFFF);
        run.due("fits(0, 0, 3, 1, 1)", 0).due("fits(1, 0, 3, 1, 1)", 0);
    }

    private void pegsAreBitsOfTwo() {
        edges.of(Edges.TERMS, "PEGS (0, 1, bits);");
        for (String peg : new String[] {"0", "1"}) {
            Run run = told(edges.housed("h1,1;f0;f0;l5,0," + peg + ";t0,0," + peg + ";"), 1, 0, 4, 4, 3);
            run.due("fits(0, 0, 0, 1, 2)", 1).due("fits(0, 0, 0, 2, 2)", 1).due("fits(0, 0, 2, 1, 2)", 2);
            run.due("fits(0, 0, 2, 2, 2)", 2).due("fits(0, 0, 4, 1, 2)", 0).due("fits(1, 0, 1, 1, 2)", 3);
            run.due("pair(0, 2)", Integer.parseInt(peg));
        }
    }

    private void hadsAreNoneToForty() {
        edges.of(Edges.TERMS, "HADS: BREATH (0 to 40) of it now: how many; the least; NONE.");
        Run tin = told(edges.housed("h1,1;f0;f0;t20,0,1;t20,0,0;b20,0,1;o20,0,1;"), 0, 40, 41, -1, 36, 37, 39);
        tin.due("fits(0, 0, 0, 1, 3)", 1).due("fits(0, 0, 0, 1, 4)", 0);
        tin.due("fits(0, 0, 1, 1, 3)", 1).due("fits(0, 0, 1, 1, 4)", 40);
        tin.due("fits(0, 0, 2, 1, 3)", 0).none("fits(0, 0, 2, 1, 4)");
        tin.due("fits(0, 0, 3, 1, 3)", 0).none("fits(0, 0, 3, 1, 4)");
        // One that blows: of 0 to 4 nothing is left; none had 41.
        tin.due("fits(1, 0, 0, 1, 3)", 5).due("fits(1, 0, 0, 1, 4)", 0);
        tin.due("fits(1, 0, 4, 1, 3)", 1).due("fits(1, 0, 4, 1, 4)", 40);
        tin.due("fits(1, 0, 5, 1, 3)", 0).none("fits(1, 0, 5, 1, 4)");
        // Brass on a warm DAY: 39 and 40 are 40 then; none was below 0.
        tin.due("fits(2, 0, 1, 1, 3)", 2).due("fits(2, 0, 1, 1, 4)", 39);
        tin.due("fits(2, 0, 0, 1, 3)", 0).none("fits(2, 0, 0, 1, 4)");
        // An old one on a warm DAY: 3 less.
        tin.due("fits(3, 0, 0, 1, 3)", 4).due("fits(3, 0, 0, 1, 4)", 0);
        tin.due("fits(3, 0, 5, 1, 3)", 1).due("fits(3, 0, 5, 1, 4)", 40).due("fits(3, 0, 6, 1, 3)", 0);
        tin.due("pair(0, 0)", 20).due("pair(1, 0)", 20).due("pair(2, 0)", 20).due("pair(3, 0)", 20);
    }

    private void fitsFindsPlaces() {
        edges.of(25, "SORTS (what = 0), WARMS (1), PEGS (2), HADS: how many (3), the least (4; NONE), "
            + "by BREATH, n ITEMS of a ROW from i on.");
        Run run = told(edges.housed("h0,1;f0;f0;t7,0,1;"), 9, 7, 7, 9);
        run.due("fits(0, 0, 1, 2, 0)", 2 + 8 + 16 + 32).due("fits(0, 0, 1, 2, 1)", 65535).due("fits(0, 0, 1, 2, 2)", 2);
        run.due("fits(0, 0, 1, 2, 3)", 1).due("fits(0, 0, 1, 2, 4)", 7);
        run.due("fits(0, 0, 0, 2, 0)", 0).due("fits(0, 0, 2, 2, 1)", 0).due("fits(0, 0, 0, 3, 2)", 0);
        run.due("fits(0, 0, 2, 2, 3)", 0).none("fits(0, 0, 2, 2, 4)").due("fits(0, 0, 0, 1, 4)", 9);
        for (int lane = 0; lane < 3; lane++) {
            run.does("row(7, " + lane + ", 40)", "set(7, 39, 7)").due("fits(0, 7, 39, 1, 4)", 7).due("fits(0, 7, 38, 1, 4)", 0);
        }
    }

    private void fitsIsRefused() {
        edges.of(25, "BAD: PAIR, ROW, n, what; NULL; PLACE.");
        Run run = told(edges.housed("h0,1;f0;f0;t7,0,1;"), 7, 7, 7, 7, 7);
        run.bad("fits(-1, 0, 0, 1, 0)", "fits(1, 0, 0, 1, 0)", "fits(MIN, 0, 0, 1, 0)", "fits(MAX, 0, 0, 1, 0)");
        run.bad("fits(0, -1, 0, 1, 0)", "fits(0, 8, 0, 1, 0)", "fits(0, MIN, 0, 1, 0)", "fits(0, MAX, 0, 1, 0)");
        run.bad("fits(0, 0, 0, 0, 0)", "fits(0, 0, 0, 13, 0)", "fits(0, 0, 0, MIN, 0)", "fits(0, 0, 0, MAX, 0)");
        run.bad("fits(0, 0, 0, 1, -1)", "fits(0, 0, 0, 1, 5)", "fits(0, 0, 0, 1, MIN)", "fits(0, 0, 0, 1, MAX)");
        run.bad("fits(1, 1, 0, 1, 0)", "fits(0, 1, 0, 0, 0)", "fits(0, 1, 0, 13, 0)", "fits(0, 1, 0, 1, 5)");
        run.bad("fits(0, 0, -1, 1, 5)", "fits(0, 0, 5, 13, 0)");
        run.missing("fits(0, 1, 0, 1, 0)", "fits(0, 7, 0, 12, 4)", "fits(0, 1, -1, 1, 0)", "fits(0, 1, 40, 1, 0)");
        run.due("fits(0, 0, 0, 5, 4)", 7).noPlace("fits(0, 0, 0, 6, 4)").due("fits(0, 0, 4, 1, 4)", 7);
        run.noPlace("fits(0, 0, 5, 1, 4)", "fits(0, 0, 4, 2, 4)", "fits(0, 0, -1, 1, 4)", "fits(0, 0, -1, 5, 4)");
        run.noPlace("fits(0, 0, MIN, 1, 4)", "fits(0, 0, MAX, 12, 4)", "fits(0, 0, MAX, 1, 0)");
        run.does("row(2, 0, 0)").noPlace("fits(0, 2, 0, 1, 0)");
        edges.fresh().does("row(0, 0, 5)").bad("fits(0, 0, 0, 1, 0)", "fits(0, 1, 0, 1, 0)", "fits(0, 0, 5, 1, 0)");
    }

    private void dueChance(String text, int n, int c, int above, int below) {
        Run run = edges.housed(text).due("chance(0, " + n + ", " + c + ", 0)", above);
        run.due("chance(0, " + n + ", " + c + ", 1)", below);
    }

    private void chancesAreOfUpToEightDays() {
        edges.of(Edges.TERMS, "CHANCE: each of n DAYS (0 to 8) from now on is warm by c of 10, each by itself "
            + "(whatever WARM says): that a PAIR has BREATH behind them: a fraction.");
        for (String warm : new String[] {"0", "6", "15"}) {
            dueChance("h" + warm + ",1;f0;f0;l1,0,1;", 0, 5, 1, 1);
            dueChance("h" + warm + ",1;f0;f0;l0,0,1;", 0, 5, 0, 1);
            dueChance("h" + warm + ",1;f0;f0;l1,0,1;", 1, 3, 7, 10);
            dueChance("h" + warm + ",1;f0;f0;l2,0,1;", 2, 3, 91, 100);
            dueChance("h" + warm + ",1;f0;f0;l1,0,1;", 8, 0, 1, 1);
            dueChance("h" + warm + ",1;f0;f0;l8,0,1;", 8, 10, 0, 1);
            dueChance("h" + warm + ",1;f0;f0;l9,0,1;", 8, 10, 1, 1);
            dueChance("h" + warm + ",1;f0;f0;l1,0,1;", 8, 1, 43046721, 100000000);
            dueChance("h" + warm + ",1;f0;f0;l8,0,1;", 8, 9, 56953279, 100000000);
            dueChance("h" + warm + ",1;f0;f0;o1,0,1;", 1, 5, 0, 1);
            dueChance("h" + warm + ",1;f0;f0;o3,0,1;", 2, 1, 81, 100);
            dueChance("h" + warm + ",1;f0;f0;t1,0,1;", 8, 7, 1, 1);
            dueChance("h" + warm + ",1;f0;f0;t8,0,0;", 2, 7, 0, 1);
            dueChance("h" + warm + ",1;f0;f0;b0,0,1;", 1, 3, 3, 10);
            // Its HEARTH burns on the first of the DAYS, or for as long as they are.
            dueChance("h" + warm + ",1;f1;f0;s1,0,1;", 2, 3, 7, 10);
            dueChance("h" + warm + ",1;f8;f0;s1,0,1;", 8, 3, 1, 1);
        }
    }

    private void chancesAreInLowestTerms() {
        edges.of(Edges.TERMS, "All that is divided is cut towards 0, but fractions, told as two numbers in lowest terms "
            + "(0 is 0 by 1).");
        dueChance("h0,1;f0;f0;b0,0,1;", 1, 4, 2, 5);
        dueChance("h0,1;f0;f0;b0,0,1;", 1, 5, 1, 2);
        dueChance("h0,1;f0;f0;b0,0,1;", 1, 0, 0, 1);
        dueChance("h0,1;f0;f0;b0,0,1;", 8, 0, 0, 1);
        dueChance("h0,1;f0;f0;b0,0,1;", 1, 10, 1, 1);
        dueChance("h0,1;f0;f0;b0,0,1;", 8, 10, 1, 1);
        dueChance("h0,1;f0;f0;l5,0,1;", 8, 5, 163, 256);
        dueChance("h0,1;f0;f0;l1,0,1;", 8, 5, 1, 256);
        dueChance("h0,1;f0;f0;l1,0,1;", 8, 8, 1, 390625);
    }

    private void chanceIsRefused() {
        edges.of(26, "CHANCE (c 0 to 10): above (what = 0), below (1). BAD.");
        Run run = edges.housed("h0,1;f0;f0;l1,0,1;").due("chance(0, 1, 3, 0)", 7).due("chance(0, 1, 3, 1)", 10);
        run.due("chance(0, 1, 0, 0)", 1).due("chance(0, 1, 10, 0)", 0).due("chance(0, 1, 10, 1)", 1);
        run.bad("chance(0, 1, -1, 0)", "chance(0, 1, 11, 0)", "chance(0, 1, MIN, 0)", "chance(0, 1, MAX, 0)");
        run.due("chance(0, 0, 3, 0)", 1).due("chance(0, 8, 0, 0)", 1).bad("chance(0, -1, 3, 0)", "chance(0, 9, 3, 0)");
        run.bad("chance(0, MIN, 3, 0)", "chance(0, MAX, 3, 0)", "chance(0, 0, 11, 0)", "chance(0, 9, 0, 1)");
        run.bad("chance(0, 1, 3, -1)", "chance(0, 1, 3, 2)", "chance(0, 1, 3, MIN)", "chance(0, 1, 3, MAX)");
        run.bad("chance(-1, 1, 3, 0)", "chance(1, 1, 3, 0)", "chance(MIN, 1, 3, 0)", "chance(MAX, 1, 3, 0)");
        edges.fresh().bad("chance(0, 0, 0, 0)", "chance(0, 9, 11, 2)");
    }

    private void dueSummer(String text, int seed, int[] fire, int[] breath) {
        Run run = edges.housed(text);
        for (int n = 0; n < fire.length; n++) {
            run.due("drawn(" + n + ", " + seed + ", 0)", fire[n]).due("drawn(" + n + ", " + seed + ", 1)", breath[n]);
        }
        run.due("count(3)", 0).due("count(8)", 0);
    }

    private void summersGoByDraws() {
        edges.of(Edges.TERMS, "SUMMERS of n DAYS (0 to 60) by a SEED (X at first): ahead of each X becomes the rest of "
            + "(X times 16807) by 2147483647; WARM is the rest of X by 16 from then on;");
        // X is 16807, 282475249, 1622650073, 984943658, 1144108930, 470211272, 101027544, 1457850878;
        // WARM 7, 1, 9, 10, 2, 8, 8, 14.
        int[] coldFire = {0, 0, 0, 0, 0, 0, 0, 4, 7};
        dueSummer("h15,1;f0;f0;l20,0,1;", 1, coldFire, new int[] {20, 19, 19, 19, 18, 18, 18, 14, 10});
        // X is 1774597664, 1410049312, 1216742139, 1445843439, 1513213468, 2077408902, 1222282988,
        // 81612114; WARM 0, 0, 11, 15, 12, 6, 12, 2.
        int[] fire = {0, 0, 0, 4, 3, 2, 5, 8, 7};
        dueSummer("h15,1;f0;f0;l20,0,1;", 999999, fire, new int[] {20, 20, 20, 16, 15, 15, 11, 7, 7});
        Run run = edges.housed("h15,1;f5;f0;t20,0,1;").due("drawn(0, 1, 0)", 5).due("drawn(60, 1, 0)", 0);
        run.bad("drawn(-1, 1, 0)", "drawn(61, 1, 0)").due("drawn(60, 1, 1)", 0).due("count(4)", 15);
    }

    private void summersToggleOneOfThePairs() {
        edges.of(Edges.TERMS, "the PEG of the PAIR that is the rest of X by how many there are (none: nothing) is drawn, "
            + "or put in, if X by 3 leaves 0; then the DAY: FIRE of all HEARTHS; BREATH of all PAIRS.");
        // By SEED 1 the seventh X is the first that 3 divides; by 7 it leaves 2, by 5 it leaves 4.
        String seven = "h0,1;f0;f0;t9,0,1;t9,0,1;t3,1,1;t9,0,1;t9,0,1;t9,0,1;t9,0,1;";
        edges.housed(seven).due("drawn(6, 1, 1)", 57).due("drawn(7, 1, 1)", 54).due("drawn(7, 1, 0)", 3);
        String five = "h0,1;f0;f0;t9,0,1;t9,0,1;t9,1,1;t9,0,1;t2,0,1;";
        edges.housed(five).due("drawn(6, 1, 1)", 38).due("drawn(7, 1, 1)", 36).due("drawn(7, 1, 0)", 2);
        // One that is drawn is put in.
        edges.housed("h0,1;f0;f0;t40,0,0;").due("drawn(6, 1, 1)", 16).due("drawn(7, 1, 1)", 16).due("drawn(8, 1, 1)", 16);
        // By SEED 2 the third X is the first: 3 of 4 PAIRS is drawn on that very DAY.
        edges.housed("h0,1;f9;f9;t9,0,1;t9,0,1;t9,0,1;t9,1,1;").due("drawn(2, 2, 1)", 36).due("drawn(3, 2, 1)", 32)
            .due("drawn(2, 2, 0)", 14).due("drawn(3, 2, 0)", 16);
    }

    private void summersOfNoPairs() {
        edges.of(Edges.TERMS, "(none: nothing)");
        Run run = edges.housed("h0,1;f20;f3;").due("drawn(0, 1, 0)", 23).due("drawn(2, 1, 0)", 19);
        run.due("drawn(6, 1, 1)", 0).due("drawn(7, 1, 1)", 0).due("drawn(60, 1, 1)", 0).due("drawn(60, 999999, 0)", 0);
    }

    private void summersOfAll() {
        edges.of(Edges.TERMS, "FIRE of all HEARTHS; BREATH of all PAIRS.");
        String all = "h0,9;f1;f2;f3;f4;f5;f6;f7;f8;t1,0,1;t2,0,1;t3,0,1;t4,0,1;t5,0,1;t6,0,1;t7,0,1;";
        edges.housed(all).due("drawn(0, 1, 0)", 36).due("drawn(0, 1, 1)", 28).due("drawn(1, 1, 0)", 28);
        edges.housed(all).reads("h0,9;f1;f2;t9,0,1;").due("drawn(0, 1, 0)", 3).due("drawn(0, 1, 1)", 9);
    }

    private void drawnIsRefused() {
        edges.of(27, "SUMMERS by a SEED (1 to 999999): FIRE (what = 0), BREATH (1).");
        Run run = edges.housed("h0,1;f5;f4;t20,0,1;b7,0,1;").due("drawn(0, 1, 0)", 9).due("drawn(0, 1, 1)", 27);
        run.due("drawn(0, 999999, 0)", 9).due("drawn(1, 999999, 0)", 7).due("drawn(1, 1, 1)", 28);
        run.bad("drawn(1, 0, 0)", "drawn(1, 1000000, 0)", "drawn(1, -1, 0)", "drawn(1, MIN, 0)", "drawn(1, MAX, 0)");
        edges.of(27, "BAD; STATE: no HOUSE (ahead of BAD).");
        run.bad("drawn(-1, 1, 0)", "drawn(61, 1, 0)", "drawn(MIN, 1, 0)", "drawn(MAX, 1, 0)", "drawn(0, 0, 0)");
        run.bad("drawn(1, 1, -1)", "drawn(1, 1, 2)", "drawn(1, 1, MIN)", "drawn(1, 1, MAX)", "drawn(0, 1000000, 1)");
        Run none = edges.fresh().state("drawn(0, 1, 0)", "drawn(-1, 1, 0)", "drawn(61, 1, 0)", "drawn(0, 0, 0)");
        none.state("drawn(0, 1000000, 0)", "drawn(0, 1, 2)", "drawn(0, 1, -1)");
    }
}
