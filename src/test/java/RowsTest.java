/** Promises 2 to 5, and 35 as far as ROWS go. */
public final class RowsTest {
    private static final Check check = new Check();

    public static void main(String[] args) {
        makesRows();
        setsItems();
        copiesItems();
        dropsRows();
        tellsTheLatestFinding();
        check.end();
    }

    private static void makesRows() {
        BellowsWords x = new BellowsWords();
        check.due("row(0, 0, 0)", x.row(0, 0, 0), 0);
        check.due("row(7, 2, 40)", x.row(7, 2, 40), 40);
        check.due("count(0)", x.count(0), 2);
        check.due("row(-1, 0, 1)", x.row(-1, 0, 1), BellowsWords.BAD);
        check.due("row(8, 0, 1)", x.row(8, 0, 1), BellowsWords.BAD);
        check.due("row(1, -1, 1)", x.row(1, -1, 1), BellowsWords.BAD);
        check.due("row(1, 3, 1)", x.row(1, 3, 1), BellowsWords.BAD);
        check.due("row(1, 0, 41)", x.row(1, 0, 41), BellowsWords.BAD);
        check.due("row(1, 0, MAX)", x.row(1, 0, Integer.MAX_VALUE), BellowsWords.BAD);
        check.due("row(1, 0, -1)", x.row(1, 0, -1), Check.SIZE);
        check.due("row(1, 0, MIN)", x.row(1, 0, Integer.MIN_VALUE), Check.SIZE);
        check.due("BAD goes ahead of SIZE", x.row(8, 0, -1), BellowsWords.BAD);
        check.due("BAD goes ahead of SIZE", x.row(0, 3, -1), BellowsWords.BAD);
        check.due("count(0) after refusals", x.count(0), 2);
        check.due("row 7 stays after SIZE", x.row(7, 0, -5), Check.SIZE);
        check.due("row 7 stays after SIZE", x.set(7, 39, 1 << 20), 1 << 20);
        check.due("a row in place of one", x.row(7, 1, 3), 3);
        check.due("count(0) the same", x.count(0), 2);
        check.due("the new row is shorter", x.set(7, 3, 1), Check.PLACE);
        x.set(7, 0, 9);
        x.row(7, 2, 3);
        check.due("a new row is 0 again", peek(x, 7, 0), 0);
    }

    /** There is no call that reads an ITEM: a PAIR whose BREATH is known tells by fits(). */
    private static int peek(BellowsWords x, int row, int i) {
        Check.read(x, "h0,1;f0;f0;t0,0,1;");
        int least = x.fits(0, row, i, 1, 4);
        return least;
    }

    private static void setsItems() {
        BellowsWords x = new BellowsWords();
        check.due("set(0, 0, 1) of none", x.set(0, 0, 1), Check.NULL);
        check.due("set(0, -1, 1) of none", x.set(0, -1, 1), Check.NULL);
        x.row(0, 0, 2);
        x.row(1, 1, 2);
        x.row(2, 2, 2);
        check.due("byte 127", x.set(0, 0, 127), 127);
        check.due("byte 128", x.set(0, 0, 128), -128);
        check.due("byte 255", x.set(0, 1, 255), -1);
        check.due("byte 256", x.set(0, 1, 256), 0);
        check.due("byte -129", x.set(0, 1, -129), 127);
        check.due("short 32767", x.set(1, 0, 32767), 32767);
        check.due("short 32768", x.set(1, 0, 32768), -32768);
        check.due("short 65535", x.set(1, 1, 65535), -1);
        check.due("int MAX", x.set(2, 0, Integer.MAX_VALUE), Integer.MAX_VALUE);
        check.due("int MIN", x.set(2, 1, Integer.MIN_VALUE), Integer.MIN_VALUE);
        check.due("set(8, ..)", x.set(8, 0, 1), BellowsWords.BAD);
        check.due("set(-1, ..)", x.set(-1, 0, 1), BellowsWords.BAD);
        check.due("set(0, 2, ..)", x.set(0, 2, 1), Check.PLACE);
        check.due("set(0, -1, ..)", x.set(0, -1, 1), Check.PLACE);
        check.due("set(0, MAX, ..)", x.set(0, Integer.MAX_VALUE, 1), Check.PLACE);
        check.due("set(0, MIN, ..)", x.set(0, Integer.MIN_VALUE, 1), Check.PLACE);
        x.row(3, 0, 0);
        check.due("a row of nothing", x.set(3, 0, 1), Check.PLACE);
    }

    private static void copiesItems() {
        BellowsWords x = new BellowsWords();
        x.row(0, 0, 5);
        for (int i = 0; i < 5; i++) {
            x.set(0, i, i + 1);
        }
        check.due("copy onto itself, up", x.copy(0, 0, 0, 1, 4), 4);
        dueItems(x, 0, 1, 1, 2, 3, 4);
        check.due("copy onto itself, down", x.copy(0, 1, 0, 0, 4), 4);
        dueItems(x, 0, 1, 2, 3, 4, 4);
        x.row(1, 0, 3);
        check.due("copy to another", x.copy(0, 2, 1, 1, 2), 2);
        dueItems(x, 1, 0, 3, 4);
        check.due("copy of nothing, at the ends", x.copy(0, 5, 1, 3, 0), 0);
        x.row(2, 1, 5);
        check.due("copy(0, ..) to shorts", x.copy(0, 0, 2, 0, 1), Check.STORE);
        check.due("STORE goes ahead of PLACE", x.copy(0, 9, 2, 0, -1), Check.STORE);
        check.due("STORE, though nothing is copied", x.copy(0, 0, 2, 0, 0), Check.STORE);
        check.due("NULL goes ahead of STORE", x.copy(3, 9, 2, 0, -1), Check.NULL);
        check.due("the second is missing", x.copy(0, 0, 3, 0, 1), Check.NULL);
        check.due("BAD goes ahead of NULL", x.copy(3, 0, 8, 0, 1), BellowsWords.BAD);
        check.due("copy(-1, ..)", x.copy(-1, 0, 0, 0, 1), BellowsWords.BAD);
        check.due("beyond the end of the first", x.copy(0, 3, 1, 0, 3), Check.PLACE);
        check.due("beyond the end of the second", x.copy(0, 0, 1, 1, 3), Check.PLACE);
        check.due("i below 0", x.copy(0, -1, 1, 0, 1), Check.PLACE);
        check.due("j below 0", x.copy(0, 0, 1, -1, 1), Check.PLACE);
        check.due("n below 0", x.copy(0, 0, 1, 0, -1), Check.PLACE);
        check.due("i and n beyond all", x.copy(0, Integer.MAX_VALUE, 1, 0, Integer.MAX_VALUE), Check.PLACE);
        check.due("n the least", x.copy(0, 0, 1, 0, Integer.MIN_VALUE), Check.PLACE);
        check.due("n the most", x.copy(0, 1, 1, 1, Integer.MAX_VALUE), Check.PLACE);
        dueItems(x, 0, 1, 2, 3, 4, 4);
        dueItems(x, 1, 0, 3, 4);
    }

    private static void dueItems(BellowsWords x, int row, int... items) {
        for (int i = 0; i < items.length; i++) {
            check.due("item " + i + " of row " + row, peek(x, row, i), items[i]);
        }
    }

    private static void dropsRows() {
        BellowsWords x = new BellowsWords();
        check.due("drop(0) of none", x.drop(0), Check.NULL);
        check.due("drop(8)", x.drop(8), BellowsWords.BAD);
        check.due("drop(-1)", x.drop(-1), BellowsWords.BAD);
        x.row(4, 1, 17);
        check.due("drop(4)", x.drop(4), 17);
        check.due("drop(4) again", x.drop(4), Check.NULL);
        check.due("count(0)", x.count(0), 0);
        x.row(4, 1, 0);
        check.due("drop of a row of nothing", x.drop(4), 0);
    }

    private static void tellsTheLatestFinding() {
        BellowsWords x = new BellowsWords();
        check.due("status() at first", x.status(), 0);
        x.drop(0);
        check.due("status() NULL", x.status(), 1);
        x.drop(9);
        check.due("BAD leaves status()", x.status(), 1);
        x.row(0, 0, -1);
        check.due("status() SIZE", x.status(), 4);
        x.feed(104);
        x.house();
        x.days(1);
        x.count(0);
        check.due("calls without a ROW leave status()", x.status(), 4);
        x.row(0, 0, 1);
        check.due("status() of one that went well", x.status(), 0);
        x.set(0, 1, 0);
        check.due("status() PLACE", x.status(), 2);
        x.row(1, 1, 1);
        x.copy(0, 0, 1, 0, 1);
        check.due("status() STORE", x.status(), 5);
        x.copy(0, 0, 0, 0, 1);
        check.due("status() of a copy that went well", x.status(), 0);
        x.set(0, 5, 5);
        x.set(0, 0, 5);
        check.due("status() of a set that went well", x.status(), 0);
        x.set(0, 5, 5);
        x.drop(0);
        check.due("status() of a drop that went well", x.status(), 0);
    }
}
