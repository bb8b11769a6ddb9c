/** Promises 30 to 35: KINDS, ASKS, THE TRACE, count, status of as(). */
public final class AskedTest {
    private static final Check check = new Check();
    private static final String FIVE = "h0,1;f0;f0;f0;f0;l20,3,1;o15,2,1;s9,1,1;t7,3,0;b38,0,1;";

    public static void main(String[] args) {
        tellsKinds();
        takesAsKinds();
        asks();
        keepsTheTrace();
        counts();
        check.end();
    }

    private static void tellsKinds() {
        BellowsWords x = Check.housed(FIVE);
        for (int p = 0; p < 5; p++) {
            check.due("kind(" + p + ")", x.kind(p), p + 1);
        }
        check.due("kind(5)", x.kind(5), BellowsWords.BAD);
        check.due("kind(-1)", x.kind(-1), BellowsWords.BAD);
        check.due("kind(0) without a house", new BellowsWords().kind(0), BellowsWords.BAD);
    }

    private static void takesAsKinds() {
        BellowsWords x = Check.housed(FIVE);
        // By PAIR, the KINDS (bits) that it is.
        int[] is = {1 + 2, 1 + 2 + 4, 1 + 2 + 8, 1 + 16, 1 + 16 + 32};
        for (int p = 0; p < 5; p++) {
            for (int kind = 0; kind <= 5; kind++) {
                boolean isOne = (is[p] >> kind & 1) == 1;
                check.due("as(" + p + ", " + kind + ")", x.as(p, kind), isOne ? p : Check.KIND);
                check.due("status()", x.status(), isOne ? 0 : 3);
            }
        }
        x.as(0, 2);
        check.due("as(0, 6)", x.as(0, 6), BellowsWords.BAD);
        check.due("as(0, -1)", x.as(0, -1), BellowsWords.BAD);
        check.due("as(5, 0)", x.as(5, 0), BellowsWords.BAD);
        check.due("as(-1, 0)", x.as(-1, 0), BellowsWords.BAD);
        check.due("BAD leaves status()", x.status(), 3);
        x.drop(0);
        check.due("status() of a ROW", x.status(), 1);
        x.as(0, 0);
        check.due("status() of as() that went well", x.status(), 0);
    }

    private static void dueTrace(BellowsWords x, int... numbers) {
        for (int i = 0; i < numbers.length; i++) {
            check.due("trace(" + i + ")", x.trace(i), numbers[i]);
        }
        for (int i = numbers.length; i < 18; i++) {
            check.due("trace(" + i + ")", x.trace(i), BellowsWords.NONE);
        }
    }

    private static void asks() {
        BellowsWords x = Check.housed(FIVE);
        check.due("SIZE of leather", x.ask(0, 0), 20 + 0 + 3);
        dueTrace(x, 11, 10, 21, 20);
        check.due("MARK of leather", x.ask(0, 1), 3);
        dueTrace(x, 21, 20);
        check.due("SIZE of an old one", x.ask(1, 0), -(15 + 2 * (1 + 2)));
        dueTrace(x, 12, 11, 10, 24, 21, 20);
        check.due("MARK of an old one", x.ask(1, 1), 2 * (1 + 2));
        dueTrace(x, 24, 21, 20);
        check.due("SIZE of one with a stag", x.ask(2, 0), 9 + (2 + 1 - 1000));
        dueTrace(x, 11, 10, 22, 21, 20);
        check.due("MARK of one with a stag", x.ask(2, 1), 2 + 1 - 1000);
        dueTrace(x, 22, 21, 20);
        check.due("SIZE of tin", x.ask(3, 0), 7 - 100);
        dueTrace(x, 13, 10);
        check.due("MARK of tin", x.ask(3, 1), 3 - (7 - 100));
        dueTrace(x, 23, 20, 13, 10);
        check.due("SIZE of brass", x.ask(4, 0), 2 * (38 - 100));
        dueTrace(x, 14, 13, 10);
        check.due("MARK of brass", x.ask(4, 1), 4 - 2 * (38 - 100));
        dueTrace(x, 23, 20, 14, 13, 10);
    }

    private static void keepsTheTrace() {
        BellowsWords x = new BellowsWords();
        dueTrace(x);
        check.due("ask(0, 0) without a house", x.ask(0, 0), BellowsWords.BAD);
        Check.read(x, FIVE);
        x.ask(3, 0);
        check.due("ask(5, 0)", x.ask(5, 0), BellowsWords.BAD);
        check.due("ask(-1, 0)", x.ask(-1, 0), BellowsWords.BAD);
        check.due("ask(0, 2)", x.ask(0, 2), BellowsWords.BAD);
        check.due("ask(0, -1)", x.ask(0, -1), BellowsWords.BAD);
        dueTrace(x, 13, 10);
        Check.read(x, FIVE);
        dueTrace(x, 13, 10);
        for (int i : new int[] {-1, Integer.MIN_VALUE, Integer.MAX_VALUE}) {
            check.due("trace(" + i + ")", x.trace(i), BellowsWords.NONE);
        }
        x.move(3, 1);
        x.days(1);
        check.due("asked of what there is by then", x.ask(3, 1), 3 - (3 - 100));
    }

    private static void counts() {
        BellowsWords x = Check.housed("h13,7;f3;f0;f2;l20,0,1;o15,2,1;s9,1,0;t7,0,1;");
        x.row(2, 1, 0);
        x.row(3, 1, 4);
        x.days(2);
        x.weather(14);
        x.feed(7);
        int[] due = {2, 3, 4, 2, 14, 7, 1, 1 + 2 + 8, 3, 1};
        for (int what = 0; what < due.length; what++) {
            check.due("count(" + what + ")", x.count(what), due[what]);
        }
        check.due("count(10)", x.count(10), BellowsWords.BAD);
        check.due("count(-1)", x.count(-1), BellowsWords.BAD);
    }
}
