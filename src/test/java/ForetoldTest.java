/** Promises 17 to 27: what is FORETOLD, and that nothing changes by it. */
public final class ForetoldTest {
    private static final int NONE = BellowsWords.NONE, BAD = BellowsWords.BAD, STATE = BellowsWords.STATE;
    private static final Check check = new Check();

    public static void main(String[] args) {
        tellsBreath();
        tellsFireAndWhatIsLit();
        tellsTheFirstEmpty();
        tellsTheFirstCold();
        tellsTheBestDay();
        tellsTheFewestDrawn();
        tellsRests();
        tellsSorts();
        tellsWarmsPegsHads();
        refusesFits();
        tellsChances();
        tellsSummers();
        refusesWithoutAHouse();
        changesNothing();
        check.end();
    }

    private static void tellsBreath() {
        BellowsWords x = Check.housed("h1,1;f0;f0;l5,0,1;");
        check.due("breath(0, 0)", x.breath(0, 0), 5);
        check.due("breath(0, 1)", x.breath(0, 1), 4);
        check.due("breath(0, 4)", x.breath(0, 4), 4);
        check.due("breath(0, 5)", x.breath(0, 5), 3);
        check.due("breath(0, 60)", x.breath(0, 60), 0);
        check.due("breath(0, 61)", x.breath(0, 61), BAD);
        check.due("breath(0, -1)", x.breath(0, -1), BAD);
        check.due("breath(1, 0)", x.breath(1, 0), BAD);
        check.due("breath(-1, 0)", x.breath(-1, 0), BAD);
        x.days(1);
        check.due("breath(0, 3) from DAY 1 on", x.breath(0, 3), 4);
        check.due("breath(0, 4) from DAY 1 on", x.breath(0, 4), 3);
    }

    private static void tellsFireAndWhatIsLit() {
        BellowsWords x = Check.housed("h0,1;f5;f0;t6,1,0;");
        int[] fire = {0, 4, 5, 4, 3, 2, 1, 0};
        int[] lit = {1, 3, 3, 3, 3, 2, 2, 0};
        for (int d = 0; d < fire.length; d++) {
            check.due("fire(1, " + d + ")", x.fire(1, d), fire[d]);
            check.due("lit(" + d + ")", x.lit(d), lit[d]);
        }
        check.due("fire(1, 60)", x.fire(1, 60), 0);
        check.due("fire(1, 61)", x.fire(1, 61), BAD);
        check.due("fire(1, -1)", x.fire(1, -1), BAD);
        check.due("fire(2, 0)", x.fire(2, 0), BAD);
        check.due("fire(-1, 0)", x.fire(-1, 0), BAD);
        check.due("lit(61)", x.lit(61), BAD);
        check.due("lit(-1)", x.lit(-1), BAD);
    }

    private static void dueEmpty(String text, int pair, int days) {
        BellowsWords x = Check.housed(text);
        check.due("empty(0) of " + text, x.empty(0), pair);
        check.due("empty(1) of " + text, x.empty(1), days);
    }

    private static void tellsTheFirstEmpty() {
        dueEmpty("h15,1;f0;f0;l3,0,1;l2,0,1;t2,0,1;", 1, 2);
        dueEmpty("h15,1;f0;f0;l3,0,1;l2,0,1;l2,0,1;", 1, 2);
        dueEmpty("h15,1;f0;f0;l3,0,1;t0,0,1;", 1, 0);
        dueEmpty("h15,1;f0;f0;t1,0,1;b1,0,1;", NONE, NONE);
        dueEmpty("h15,1;f0;f0;", NONE, NONE);
        dueEmpty("h8,1;f0;f0;l15,0,1;", 0, 60);
        dueEmpty("h8,1;f0;f0;l16,0,1;", NONE, NONE);
        BellowsWords x = Check.housed("h0,1;f0;f0;t0,0,1;");
        check.due("empty(2)", x.empty(2), BAD);
        check.due("empty(-1)", x.empty(-1), BAD);
    }

    private static void tellsTheFirstCold() {
        BellowsWords x = Check.housed("h0,1;f20;f0;t40,0,0;");
        check.due("cold(0)", x.cold(0), 60);
        check.due("cold(1)", x.cold(1), 0);
        check.due("cold(2)", x.cold(2), BAD);
        check.due("cold(-1)", x.cold(-1), BAD);
        BellowsWords more = Check.housed("h0,1;f20;f1;t40,0,0;t1,0,0;");
        check.due("cold(0)", more.cold(0), NONE);
        check.due("cold(1)", more.cold(1), 1);
    }

    private static void dueBest(BellowsWords x, int n, int k, int most) {
        check.due("best(0, " + n + ", 0)", x.best(0, n, 0), k);
        check.due("best(0, " + n + ", 1)", x.best(0, n, 1), most);
    }

    private static void tellsTheBestDay() {
        for (String peg : new String[] {"1", "0"}) {
            BellowsWords x = Check.housed("h0,1;f0;f0;t8,0," + peg + ";");
            dueBest(x, 1, 0, 4);
            dueBest(x, 2, 0, 7);
            dueBest(x, 3, 1, 7);
            dueBest(x, 30, 28, 7);
        }
        BellowsWords lost = Check.housed("h0,9;f0;f0;t8,0,1;");
        dueBest(lost, 9, 0, 0);
        BellowsWords x = Check.housed("h0,1;f0;f0;t8,0,1;");
        check.due("best(0, 0, 0)", x.best(0, 0, 0), BAD);
        check.due("best(0, 31, 0)", x.best(0, 31, 0), BAD);
        check.due("best(0, 1, 2)", x.best(0, 1, 2), BAD);
        check.due("best(0, 1, -1)", x.best(0, 1, -1), BAD);
        check.due("best(1, 1, 0)", x.best(1, 1, 0), BAD);
        check.due("best(-1, 1, 0)", x.best(-1, 1, 0), BAD);
    }

    private static void dueDraw(String text, int n, int many, int which) {
        BellowsWords x = Check.housed(text);
        check.due("draw(" + n + ", 0) of " + text, x.draw(n, 0), many);
        check.due("draw(" + n + ", 1) of " + text, x.draw(n, 1), which);
    }

    private static void tellsTheFewestDrawn() {
        String all = "h0,4;f0;f0;f0;t4,0,1;t4,1,1;t8,1,1;t4,2,1;";
        dueDraw(all, 1, 3, 1 + 2 + 8);
        dueDraw(all, 4, 3, 1 + 2 + 8);
        dueDraw(all, 5, NONE, NONE);
        // Behind 5 DAYS only the one with more BREATH still burns.
        dueDraw("h0,4;f9;f0;f9;t4,1,1;t8,1,1;", 5, 1, 2);
        // What is drawn already stays so, and is not counted unless it is taken.
        dueDraw("h0,4;f0;f0;f0;t4,0,0;t4,1,1;t8,1,1;t4,2,1;", 1, 2, 2 + 8);
        dueDraw("h0,4;f5;f5;", 4, 0, 0);
        dueDraw("h0,4;f5;f5;", 5, NONE, NONE);
        // Two that are enough come ahead of three with less bits.
        dueDraw("h0,8;f0;f9;t2,0,1;t2,0,1;t4,0,1;t4,0,1;", 1, 2, 4 + 8);
        dueDraw("h0,9;f9;f0;t3,1,1;t3,1,1;t3,1,1;t3,1,1;t3,1,1;t3,1,1;t4,1,1;", 1, 3, 1 + 2 + 4);
        BellowsWords x = Check.housed(all);
        check.due("draw(0, 0)", x.draw(0, 0), BAD);
        check.due("draw(31, 0)", x.draw(31, 0), BAD);
        check.due("draw(30, 1)", x.draw(30, 1), NONE);
        check.due("draw(1, 2)", x.draw(1, 2), BAD);
        check.due("draw(1, -1)", x.draw(1, -1), BAD);
    }

    private static void tellsRests() {
        BellowsWords x = Check.housed("h0,1;f0;f0;t4,0,1;t8,1,0;");
        check.due("rests(0, 1, 5, -1)", x.rests(0, 1, 5, -1), 1);
        check.due("rests(0, 1, 5, 0)", x.rests(0, 1, 5, 0), 43);
        check.due("rests(1, 0, 5, 0)", x.rests(1, 0, 5, 0), 34);
        check.due("rests(0, 1, 5, 1)", x.rests(0, 1, 5, 1), NONE);
        BellowsWords all = Check.housed("h0,9;f0;f0;t4,0,1;t8,1,1;");
        check.due("all rest", all.rests(0, 1, 20, -1), 25);
        check.due("the first", all.rests(0, 1, 20, 0), 0);
        check.due("the eighth", all.rests(0, 1, 20, 7), 12);
        check.due("the last", all.rests(0, 1, 20, 24), 44);
        check.due("one more", all.rests(0, 1, 20, 25), NONE);
        check.due("many more", all.rests(0, 1, 20, Integer.MAX_VALUE), NONE);
        BellowsWords atOnce = Check.housed("h0,1;f0;f0;t20,0,1;t20,1,1;");
        check.due("both at once", atOnce.rests(0, 1, 5, -1), 1);
        check.due("both at once", atOnce.rests(0, 1, 5, 0), 0);
        // Each is too little by itself: they rest where they blow together, or miss for good.
        BellowsWords both = Check.housed("h0,8;f0;f0;t4,0,1;t4,0,1;");
        check.due("together", both.rests(0, 1, 5, -1), 5);
        for (int wait = 0; wait < 5; wait++) {
            check.due("rest " + wait, both.rests(0, 1, 5, wait), 11 * wait);
        }
        check.due("rests(0, 0, 5, 0)", x.rests(0, 0, 5, 0), BAD);
        check.due("rests(0, 2, 5, 0)", x.rests(0, 2, 5, 0), BAD);
        check.due("rests(-1, 0, 5, 0)", x.rests(-1, 0, 5, 0), BAD);
        check.due("rests(0, 1, 4, 0)", x.rests(0, 1, 4, 0), BAD);
        check.due("rests(0, 1, 21, 0)", x.rests(0, 1, 21, 0), BAD);
        check.due("rests(0, 1, 5, -2)", x.rests(0, 1, 5, -2), BAD);
    }

    private static void told(BellowsWords x, int... items) {
        x.row(0, 2, items.length);
        for (int i = 0; i < items.length; i++) {
            x.set(0, i, items[i]);
        }
    }

    private static void tellsSorts() {
        BellowsWords cold = Check.housed("h1,1;f0;f0;l20,0,1;");
        told(cold, 19, 19, 19, 19, 18);
        check.due("leather, or a stag by a cold hearth", cold.fits(0, 0, 0, 5, 0), 2 + 8);
        told(cold, 17, 16, 15, 14, 11);
        check.due("an old one", cold.fits(0, 0, 0, 5, 0), 4);
        told(cold, 21, 21);
        check.due("brass", cold.fits(0, 0, 0, 2, 0), 32);
        BellowsWords warm = Check.housed("h1,1;f3;f0;o20,0,1;");
        told(warm, 20, 20, 20, 20, 19);
        check.due("tin, or a stag by a fire", warm.fits(0, 0, 0, 4, 0), 8 + 16);
        check.due("a stag whose fire went out", warm.fits(0, 0, 0, 5, 0), 8);
        told(warm, 5);
        check.due("none", warm.fits(0, 0, 0, 1, 0), 0);
    }

    private static void tellsWarmsPegsHads() {
        BellowsWords x = Check.housed("h1,1;f0;f0;l20,0,1;b5,0,1;t9,0,0;");
        told(x, 7, 19, 19, 19, 19, 18, 16, 0, 40);
        check.due("WARMS by five", x.fits(0, 0, 1, 5, 1), 1 << 1);
        check.due("WARMS by one", x.fits(0, 0, 1, 1, 1), 0xAAAA);
        check.due("PEGS: it is in", x.fits(0, 0, 1, 1, 2), 2);
        check.due("PEGS: it is drawn", x.fits(0, 0, 6, 1, 2), 1);
        check.due("PEGS: neither", x.fits(0, 0, 0, 1, 2), 0);
        check.due("HADS", x.fits(0, 0, 1, 1, 3), 1);
        check.due("the least", x.fits(0, 0, 1, 1, 4), 20);
        check.due("HADS of nothing left", x.fits(0, 0, 7, 1, 3), 2);
        check.due("the least", x.fits(0, 0, 7, 1, 4), 0);
        check.due("HADS of brass", x.fits(1, 0, 8, 1, 3), 2);
        check.due("the least", x.fits(1, 0, 8, 1, 4), 39);
        check.due("HADS of one that blows", x.fits(2, 0, 7, 1, 3), 5);
        check.due("HADS: none", x.fits(2, 0, 8, 1, 3), 0);
        check.due("the least: none", x.fits(2, 0, 8, 1, 4), NONE);
        told(x, 3, 3, 3, 3, 3, 3, 3, 3, 3, 3, 3, 3);
        check.due("twelve", x.fits(0, 0, 0, 12, 3), 0);
        x.weather(0);
        check.due("twelve", x.fits(0, 0, 0, 12, 4), 3);
        told(x, 20, 41, 9);
        check.due("WARMS, no DAY among them", x.fits(0, 0, 0, 1, 1), 0x5555);
        check.due("HADS beyond what a PAIR has", x.fits(0, 0, 1, 1, 3), 0);
        check.due("the least", x.fits(0, 0, 1, 1, 4), NONE);
        x.peg(2, 1);
        check.due("WARMS of tin", x.fits(2, 0, 2, 1, 1), 65535);
    }

    private static void refusesFits() {
        BellowsWords x = Check.housed("h1,1;f0;f0;l20,0,1;");
        x.row(0, 0, 5);
        check.due("fits(1, ..)", x.fits(1, 0, 0, 1, 0), BAD);
        check.due("fits(-1, ..)", x.fits(-1, 0, 0, 1, 0), BAD);
        check.due("fits(0, 8, ..)", x.fits(0, 8, 0, 1, 0), BAD);
        check.due("fits(0, -1, ..)", x.fits(0, -1, 0, 1, 0), BAD);
        check.due("n 0", x.fits(0, 0, 0, 0, 0), BAD);
        check.due("n 13", x.fits(0, 0, 0, 13, 0), BAD);
        check.due("what 5", x.fits(0, 0, 0, 1, 5), BAD);
        check.due("what -1", x.fits(0, 0, 0, 1, -1), BAD);
        check.due("NULL goes ahead of PLACE", x.fits(0, 1, -1, 1, 0), Check.NULL);
        check.due("status()", x.status(), 1);
        check.due("BAD goes ahead of NULL", x.fits(0, 1, 0, 13, 0), BAD);
        check.due("i below 0", x.fits(0, 0, -1, 1, 0), Check.PLACE);
        check.due("beyond the end", x.fits(0, 0, 1, 5, 0), Check.PLACE);
        check.due("far beyond the end", x.fits(0, 0, Integer.MAX_VALUE, 5, 0), Check.PLACE);
        check.due("status()", x.status(), 2);
        check.due("up to the end", x.fits(0, 0, 0, 5, 0), 0);
        check.due("status()", x.status(), 0);
    }

    private static void dueChance(String text, int n, int c, int above, int below) {
        BellowsWords x = Check.housed(text);
        String call = "chance(0, " + n + ", " + c + ", ..) of " + text;
        check.due(call + " above", x.chance(0, n, c, 0), above);
        check.due(call + " below", x.chance(0, n, c, 1), below);
    }

    private static void tellsChances() {
        dueChance("h0,1;f0;f0;l2,0,1;", 2, 3, 91, 100);
        dueChance("h15,1;f0;f0;l2,0,1;", 2, 3, 91, 100);
        dueChance("h0,1;f0;f0;l5,0,1;", 8, 5, 163, 256);
        dueChance("h15,1;f0;f0;l1,0,1;", 8, 0, 1, 1);
        dueChance("h0,1;f0;f0;l2,0,1;", 2, 10, 0, 1);
        dueChance("h0,1;f0;f0;l2,0,1;", 0, 10, 1, 1);
        dueChance("h0,1;f0;f0;l0,0,1;", 0, 10, 0, 1);
        dueChance("h0,1;f0;f0;b0,0,1;", 1, 4, 2, 5);
        dueChance("h0,1;f0;f0;o3,0,1;", 2, 1, 81, 100);
        // Its hearth burns on the first of the two DAYS.
        dueChance("h0,1;f1;f0;s1,0,1;", 2, 3, 7, 10);
        dueChance("h0,1;f0;f0;l1,0,1;", 8, 1, 43046721, 100000000);
        BellowsWords x = Check.housed("h0,1;f0;f0;l2,0,1;");
        check.due("n 9", x.chance(0, 9, 1, 0), BAD);
        check.due("n -1", x.chance(0, -1, 1, 0), BAD);
        check.due("c 11", x.chance(0, 1, 11, 0), BAD);
        check.due("c -1", x.chance(0, 1, -1, 0), BAD);
        check.due("what 2", x.chance(0, 1, 1, 2), BAD);
        check.due("what -1", x.chance(0, 1, 1, -1), BAD);
        check.due("no such pair", x.chance(1, 1, 1, 0), BAD);
        check.due("no such pair", x.chance(-1, 1, 1, 0), BAD);
    }

    private static void tellsSummers() {
        // By SEED 1 X is 16807, 282475249, 1622650073, 984943658, 1144108930, 470211272, 101027544,
        // 1457850878: DAYS 0 and 3 are warm; the seventh is the first that 3 divides.
        BellowsWords one = Check.housed("h0,1;f0;f0;l20,0,1;");
        int[] breath = {20, 19, 19, 19, 18, 18, 18, 14, 10};
        int[] fire = {0, 0, 0, 0, 0, 0, 0, 4, 7};
        for (int n = 0; n < breath.length; n++) {
            check.due("drawn(" + n + ", 1, 1)", one.drawn(n, 1, 1), breath[n]);
            check.due("drawn(" + n + ", 1, 0)", one.drawn(n, 1, 0), fire[n]);
        }
        check.due("the SEED after that", one.drawn(6, 16807, 1), 15);
        BellowsWords seven = Check.housed(
            "h0,1;f0;f0;t9,0,1;t9,0,1;t3,0,1;t9,0,1;t9,0,1;t9,0,1;t9,0,1;");
        check.due("the third of seven", seven.drawn(7, 1, 0), 3);
        check.due("the breath of all", seven.drawn(7, 1, 1), 54);
        BellowsWords put = Check.housed("h0,1;f0;f0;t40,0,0;");
        check.due("it is put in, too", put.drawn(8, 1, 1), 40 - 6 * 4);
        BellowsWords none = Check.housed("h0,1;f20;f3;");
        check.due("no pairs", none.drawn(2, 5, 0), 19);
        check.due("no pairs", none.drawn(2, 5, 1), 0);
        check.due("no pairs, the seventh DAY", none.drawn(7, 1, 1), 0);
        check.due("n 61", one.drawn(61, 1, 0), BAD);
        check.due("n -1", one.drawn(-1, 1, 0), BAD);
        check.due("SEED 0", one.drawn(1, 0, 0), BAD);
        check.due("SEED 1000000", one.drawn(1, 1000000, 0), BAD);
        check.due("SEED 999999", one.drawn(0, 999999, 1), 20);
        check.due("what 2", one.drawn(1, 1, 2), BAD);
        check.due("what -1", one.drawn(1, 1, -1), BAD);
    }

    private static void refusesWithoutAHouse() {
        BellowsWords x = new BellowsWords();
        check.due("lit(-1)", x.lit(-1), STATE);
        check.due("empty(-1)", x.empty(-1), STATE);
        check.due("draw(-1, -1)", x.draw(-1, -1), STATE);
        check.due("drawn(-1, -1, -1)", x.drawn(-1, -1, -1), STATE);
        check.due("breath(0, 0)", x.breath(0, 0), BAD);
        check.due("fire(0, 0)", x.fire(0, 0), BAD);
        check.due("cold(0)", x.cold(0), BAD);
        check.due("best(0, 1, 0)", x.best(0, 1, 0), BAD);
        check.due("rests(0, 1, 5, 0)", x.rests(0, 1, 5, 0), BAD);
        check.due("fits(0, 0, 0, 1, 0)", x.fits(0, 0, 0, 1, 0), BAD);
        check.due("chance(0, 1, 1, 0)", x.chance(0, 1, 1, 0), BAD);
    }

    private static void changesNothing() {
        BellowsWords x = Check.housed("h6,2;f9;f0;f3;l20,0,1;o9,1,0;b9,2,1;");
        x.days(1);
        x.row(0, 0, 12);
        x.breath(0, 60);
        x.fire(0, 60);
        x.lit(60);
        x.empty(0);
        x.cold(0);
        x.best(1, 30, 0);
        x.draw(30, 0);
        x.rests(0, 1, 20, -1);
        for (int what = 0; what < 5; what++) {
            x.fits(0, 0, 0, 12, what);
        }
        x.chance(0, 8, 5, 0);
        x.drawn(60, 9, 0);
        int[] breath = {20, 5, 9};
        int[] fire = {8, 4, 2};
        for (int i = 0; i < 3; i++) {
            check.due("BREATH " + i, x.pair(i, 0), breath[i]);
            check.due("FIRE " + i, x.hearth(i, 0), fire[i]);
            check.due("KIND " + i, x.kind(i), new int[] {1, 2, 5}[i]);
        }
        check.due("DAY", x.count(3), 1);
        check.due("WARM", x.count(4), 6);
        check.due("PEGS", x.count(7), 5);
        check.due("ACTS", x.count(8), 1);
    }
}
