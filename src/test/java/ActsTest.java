/** Promises 9 to 16, 28 and 29: DAYS, other ACTS, what is undone, IMAGES, what there is. */
public final class ActsTest {
    private static final Check check = new Check();
    /** One PAIR of each SORT at a HEARTH that burns (0), and one each at a cold one (3). */
    private static final String KEEP = "h1,9;f9;f0;f0;f0;";

    public static void main(String[] args) {
        leaksByKind();
        leaksNotBelowNoneNorAboveForty();
        goesByTheWeather();
        blows();
        burnsAndCatches();
        passesDays();
        pegsAndMoves();
        lightsAndWeathers();
        undoes();
        forgetsTheOldestActs();
        keepsImages();
        refuses();
        check.end();
    }

    private static void dueChange(String text, int change, int then) {
        BellowsWords x = Check.housed(KEEP + text);
        check.due("pair(0, 3) of " + text, x.pair(0, 3), change);
        x.days(1);
        check.due("pair(0, 0) of " + text + " a day on", x.pair(0, 0), then);
    }

    private static void leaksByKind() {
        dueChange("l20,0,1;", -1, 19);
        dueChange("o20,0,1;", -3, 17);
        dueChange("s20,0,1;", 0, 20);
        dueChange("s20,3,1;", -1, 19);
        dueChange("t20,0,1;", 0, 20);
        dueChange("b20,0,1;", 1, 21);
        for (String sort : new String[] {"l", "o", "s", "t", "b"}) {
            dueChange(sort + "20,0,0;", -4, 16);
            dueChange(sort + "3,3,0;", -3, 0);
            dueChange(sort + "0,3,0;", 0, 0);
        }
    }

    private static void leaksNotBelowNoneNorAboveForty() {
        dueChange("l0,0,1;", 0, 0);
        dueChange("l1,0,1;", -1, 0);
        dueChange("o2,0,1;", -2, 0);
        dueChange("o3,0,1;", -3, 0);
        dueChange("o0,0,1;", 0, 0);
        dueChange("s0,3,1;", 0, 0);
        dueChange("b39,0,1;", 1, 40);
        dueChange("b40,0,1;", 0, 40);
        dueChange("b0,0,1;", 1, 1);
    }

    private static void goesByTheWeather() {
        BellowsWords x = Check.housed("h6,1;f0;f0;l20,0,1;o20,0,1;b20,0,1;s20,0,1;");
        int[] leather = {20, 19, 18, 18, 18, 17};
        int[] old = {19, 16, 13, 12, 11, 8};
        int[] brass = {20, 21, 22, 22, 22, 23};
        for (int d = 0; d < 6; d++) {
            x.days(1);
            check.due("leather behind " + (d + 1), x.pair(0, 0), leather[d]);
            check.due("old behind " + (d + 1), x.pair(1, 0), old[d]);
            check.due("brass behind " + (d + 1), x.pair(2, 0), brass[d]);
            check.due("stag by a cold hearth behind " + (d + 1), x.pair(3, 0), leather[d]);
        }
    }

    private static void blows() {
        BellowsWords x = Check.housed("h0,6;f0;f3;f0;t9,0,0;t9,0,0;t2,1,0;t5,2,0;t5,2,1;");
        check.due("hearth(0, 2)", x.hearth(0, 2), 3);
        check.due("hearth(1, 2)", x.hearth(1, 2), 4);
        check.due("hearth(2, 2)", x.hearth(2, 2), 24);
        check.due("hearth(0, 3)", x.hearth(0, 3), 8);
        check.due("hearth(1, 3)", x.hearth(1, 3), 2);
        check.due("hearth(2, 3)", x.hearth(2, 3), 4);
        check.due("days(1)", x.days(1), 3);
        check.due("BLOWN together it is enough", x.hearth(0, 0), 8);
        check.due("a LIT one takes less, too, and burns", x.hearth(1, 0), 4);
        check.due("too little is lost", x.hearth(2, 0), 0);
        check.due("the breath is gone all the same", x.pair(3, 0), 1);
        x.days(1);
        check.due("hearth(0, 0)", x.hearth(0, 0), 15);
        BellowsWords takes = Check.housed("h0,4;f0;f0;t4,0,0;t3,1,0;");
        check.due("just enough, and 1 too little", takes.days(1), 1);
        check.due("FIRE", takes.hearth(0, 0), 4);
    }

    private static void burnsAndCatches() {
        BellowsWords x = Check.housed("h0,9;f10;f0;f0;f9;f0;f1;");
        check.due("lit behind 1", x.days(1), 1 + 2 + 8);
        check.due("one that burns", x.hearth(0, 0), 9);
        check.due("one that catches", x.hearth(1, 0), 1);
        check.due("one beside 9", x.hearth(4, 0), 0);
        check.due("one that burns out", x.hearth(5, 0), 0);
        check.due("it burns down at once", x.days(1), 1 + 8);
        BellowsWords right = Check.housed("h0,9;f0;f10;");
        check.due("from the right", right.days(1), 3);
        BellowsWords eight = Check.housed("h0,9;f0;f0;f0;f0;f0;f0;f0;f10;t9,7,0;");
        check.due("the last of eight", eight.days(1), 128 + 64);
        check.due("BLOWN into the last of eight", eight.hearth(7, 3), 4);
        BellowsWords catching = Check.housed("h0,4;f0;f20;t3,0,0;");
        catching.days(1);
        check.due("less than TAKES is lost, but it catches", catching.hearth(0, 0), 1);
        BellowsWords taking = Check.housed("h0,4;f0;f20;t4,0,0;");
        taking.days(1);
        check.due("what takes does not catch besides", taking.hearth(0, 0), 4);
        BellowsWords most = Check.housed(
            "h0,1;f20;f0;t40,0,0;t40,0,0;t40,0,0;t40,0,0;t40,0,0;t40,0,0;t40,0,0;");
        most.days(2);
        check.due("FIRE behind 2", most.hearth(0, 0), 20 + 2 * 27);
        most.days(1);
        check.due("99 at most", most.hearth(0, 0), 99);
        most.days(7);
        check.due("99 still", most.hearth(0, 0), 99);
        most.days(1);
        check.due("it burns from 99", most.hearth(0, 0), 98);
    }

    private static void passesDays() {
        BellowsWords x = Check.housed("h0,9;f20;f3;");
        check.due("days(0)", x.days(0), BellowsWords.BAD);
        check.due("days(25)", x.days(25), BellowsWords.BAD);
        check.due("days(-1)", x.days(-1), BellowsWords.BAD);
        check.due("days(2)", x.days(2), 3);
        check.due("count(3)", x.count(3), 2);
        check.due("count(8)", x.count(8), 2);
        // The second goes out, and catches again from the first while that has 10 or more.
        check.due("days(10)", x.days(10), 1);
        check.due("days(24)", x.days(24), 0);
        check.due("count(3)", x.count(3), 36);
        for (int i = 0; i < 415; i++) {
            x.days(24);
        }
        check.due("count(3)", x.count(3), 9996);
        check.due("days(4)", x.days(4), BellowsWords.FULL);
        check.due("days(25)", x.days(25), BellowsWords.BAD);
        check.due("days(3)", x.days(3), 0);
        check.due("count(3)", x.count(3), 9999);
        check.due("days(1)", x.days(1), BellowsWords.FULL);
        check.due("lit(60) is told all the same", x.lit(60), 0);
        check.due("undo()", x.undo(), 23);
        check.due("days(1)", x.days(1), 0);
    }

    private static void pegsAndMoves() {
        BellowsWords x = Check.housed("h0,1;f0;f0;f0;t9,0,1;t9,1,0;t9,2,1;");
        check.due("peg(0, 1)", x.peg(0, 1), BellowsWords.STATE);
        check.due("peg(1, 0)", x.peg(1, 0), BellowsWords.STATE);
        check.due("peg(0, 0)", x.peg(0, 0), 4);
        check.due("peg(1, 1)", x.peg(1, 1), 6);
        check.due("pair(0, 2)", x.pair(0, 2), 0);
        check.due("pair(1, 2)", x.pair(1, 2), 1);
        check.due("peg(0, 2)", x.peg(0, 2), BellowsWords.BAD);
        check.due("peg(0, -1)", x.peg(0, -1), BellowsWords.BAD);
        check.due("peg(3, 0)", x.peg(3, 0), BellowsWords.BAD);
        check.due("peg(-1, 0)", x.peg(-1, 0), BellowsWords.BAD);
        check.due("move(2, 2)", x.move(2, 2), BellowsWords.STATE);
        check.due("move(2, 0)", x.move(2, 0), 2);
        check.due("pair(2, 1)", x.pair(2, 1), 0);
        check.due("hearth(0, 2)", x.hearth(0, 2), 5);
        check.due("move(2, 3)", x.move(2, 3), BellowsWords.BAD);
        check.due("move(2, -1)", x.move(2, -1), BellowsWords.BAD);
        check.due("move(3, 0)", x.move(3, 0), BellowsWords.BAD);
        check.due("move(-1, 0)", x.move(-1, 0), BellowsWords.BAD);
        check.due("count(8): refusals are no ACTS", x.count(8), 3);
    }

    private static void lightsAndWeathers() {
        BellowsWords x = Check.housed("h9,1;f7;f0;l9,0,1;");
        check.due("light(0, 20)", x.light(0, 20), 7);
        check.due("light(0, 0)", x.light(0, 0), 20);
        check.due("light(1, 1)", x.light(1, 1), 0);
        check.due("count(6)", x.count(6), 2);
        check.due("hearth(1, 1)", x.hearth(1, 1), 1);
        check.due("hearth(0, 1)", x.hearth(0, 1), 0);
        check.due("light(0, 21)", x.light(0, 21), BellowsWords.BAD);
        check.due("light(0, -1)", x.light(0, -1), BellowsWords.BAD);
        check.due("light(2, 0)", x.light(2, 0), BellowsWords.BAD);
        check.due("light(-1, 0)", x.light(-1, 0), BellowsWords.BAD);
        check.due("weather(15)", x.weather(15), 9);
        check.due("weather(0)", x.weather(0), 15);
        check.due("pair(0, 3)", x.pair(0, 3), 0);
        check.due("weather(16)", x.weather(16), BellowsWords.BAD);
        check.due("weather(-1)", x.weather(-1), BellowsWords.BAD);
        check.due("count(4)", x.count(4), 0);
        check.due("count(8)", x.count(8), 5);
        // The document has no STATE here: a call that is not refused is an ACT.
        check.due("light(1, 1) as it is", x.light(1, 1), 1);
        check.due("weather(0) as it is", x.weather(0), 0);
        check.due("count(8)", x.count(8), 7);
    }

    private static void undoes() {
        BellowsWords x = Check.housed("h1,1;f9;f0;o20,0,1;t9,1,0;");
        x.days(1);
        x.peg(0, 0);
        x.move(1, 0);
        x.light(1, 17);
        x.weather(6);
        x.days(2);
        check.due("count(8)", x.count(8), 7);
        check.due("undo()", x.undo(), 6);
        check.due("DAY", x.count(3), 2);
        check.due("undo()", x.undo(), 5);
        check.due("DAY", x.count(3), 1);
        check.due("BREATH", x.pair(0, 0), 17);
        check.due("FIRE", x.hearth(1, 0), 17);
        check.due("undo() of weather", x.undo(), 4);
        check.due("WARM", x.count(4), 1);
        check.due("undo() of light", x.undo(), 3);
        check.due("FIRE", x.hearth(1, 0), 4);
        check.due("undo() of move", x.undo(), 2);
        check.due("the HEARTH", x.pair(1, 1), 1);
        check.due("undo() of peg", x.undo(), 1);
        check.due("the PEG", x.pair(0, 2), 1);
        check.due("undo() of the first day", x.undo(), 0);
        check.due("DAY", x.count(3), 0);
        check.due("BREATH", x.pair(0, 0), 20);
        check.due("BREATH", x.pair(1, 0), 9);
        check.due("FIRE", x.hearth(0, 0), 9);
        check.due("FIRE", x.hearth(1, 0), 0);
        check.due("undo() of nothing", x.undo(), BellowsWords.STATE);
    }

    private static void forgetsTheOldestActs() {
        BellowsWords x = Check.housed("h15,1;f9;f0;l40,0,1;");
        x.peg(0, 0);
        x.peg(0, 1);
        x.days(23);
        check.due("count(8)", x.count(8), 24);
        x.days(5);
        check.due("count(8)", x.count(8), 24);
        for (int left = 23; left >= 0; left--) {
            check.due("undo()", x.undo(), left);
        }
        check.due("undo()", x.undo(), BellowsWords.STATE);
        check.due("DAY", x.count(3), 4);
        check.due("BREATH", x.pair(0, 0), 36);
        x.days(1);
        check.due("count(8)", x.count(8), 1);
        check.due("undo()", x.undo(), 0);
        check.due("BREATH", x.pair(0, 0), 36);
    }

    private static void keepsImages() {
        BellowsWords x = Check.housed("h15,1;f9;f0;l40,0,1;");
        check.due("restore(0)", x.restore(0), BellowsWords.STATE);
        x.days(2);
        check.due("image(0)", x.image(0), 1);
        check.due("an image is no ACT", x.count(8), 2);
        x.days(3);
        x.weather(3);
        x.light(1, 5);
        x.move(0, 1);
        x.peg(0, 0);
        check.due("image(1)", x.image(1), 1);
        check.due("restore(0)", x.restore(0), 1);
        check.due("no ACT", x.count(8), 0);
        check.due("no undo()", x.undo(), BellowsWords.STATE);
        check.due("DAY", x.count(3), 2);
        check.due("WARM", x.count(4), 15);
        check.due("BREATH", x.pair(0, 0), 38);
        check.due("the HEARTH", x.pair(0, 1), 0);
        check.due("the PEG", x.pair(0, 2), 1);
        check.due("FIRE", x.hearth(0, 0), 7);
        x.days(9);
        check.due("restore(0) again", x.restore(0), 1);
        check.due("BREATH", x.pair(0, 0), 38);
        check.due("another house", Check.read(x, "h0,2;f1;f1;f1;"), 3);
        check.due("restore(1)", x.restore(1), 1);
        check.due("HEARTHS", x.count(1), 2);
        check.due("PAIRS", x.count(2), 1);
        check.due("DAY", x.count(3), 5);
        check.due("WARM", x.count(4), 3);
        check.due("TAKES", x.count(5), 1);
        check.due("LIT", x.count(6), 3);
        check.due("PEGS", x.count(7), 0);
    }

    private static void refuses() {
        BellowsWords none = new BellowsWords();
        check.due("days(0) without a house", none.days(0), BellowsWords.STATE);
        check.due("weather(16) without a house", none.weather(16), BellowsWords.STATE);
        check.due("peg(0, 1) without a house", none.peg(0, 1), BellowsWords.BAD);
        check.due("light(0, 1) without a house", none.light(0, 1), BellowsWords.BAD);
        check.due("undo() without a house", none.undo(), BellowsWords.STATE);
        check.due("image(0) without a house", none.image(0), BellowsWords.STATE);
        check.due("image(2) without a house", none.image(2), BellowsWords.BAD);
        check.due("image(-1)", none.image(-1), BellowsWords.BAD);
        check.due("restore(2)", none.restore(2), BellowsWords.BAD);
        check.due("restore(-1)", none.restore(-1), BellowsWords.BAD);
        check.due("restore(1)", none.restore(1), BellowsWords.STATE);
        BellowsWords x = Check.housed("h0,1;f0;f0;t9,0,1;");
        for (int what : new int[] {-1, 4, Integer.MIN_VALUE, Integer.MAX_VALUE}) {
            check.due("pair(0, " + what + ")", x.pair(0, what), BellowsWords.BAD);
            check.due("hearth(0, " + what + ")", x.hearth(0, what), BellowsWords.BAD);
        }
        for (int thing : new int[] {-1, 2, Integer.MIN_VALUE, Integer.MAX_VALUE}) {
            check.due("pair(" + thing + ", 0)", x.pair(thing, 0), BellowsWords.BAD);
            check.due("hearth(" + thing + ", 0)", x.hearth(thing, 0), BellowsWords.BAD);
        }
    }
}
