import java.lang.management.ManagementFactory;

/** What a run makes: a few hundred objects in the constructor, none in a call. */
public final class RoomTest {
    private static final int CALLS_MOST = 512;
    private static final String BUSY = "h5,3;f9;f0;f12;f0;l20,0,1;o15,1,1;s9,2,1;t7,1,1;b38,3,1;l9,0,1;t4,1,1;";

    private static final com.sun.management.ThreadMXBean THREADS =
        (com.sun.management.ThreadMXBean) ManagementFactory.getThreadMXBean();

    public static void main(String[] args) {
        long fewest = Long.MAX_VALUE;
        BellowsWords x = Check.housed(BUSY);
        // The Java machine makes things of its own at times: the quietest of several rounds counts.
        for (int round = 0; round < 20; round++) {
            long before = allocated();
            useAll(x);
            fewest = Math.min(fewest, allocated() - before);
        }
        long before = allocated();
        BellowsWords made = new BellowsWords();
        long bytesOfOne = allocated() - before;
        System.out.println(fewest + " bytes in a round of calls, " + bytesOfOne + " by the constructor");
        if (fewest > 0 || bytesOfOne > 32 * CALLS_MOST || made.count(0) != 0) {
            System.out.println("a call makes objects, or the constructor makes too many");
            System.exit(1);
        }
    }

    private static long allocated() {
        return THREADS.getCurrentThreadAllocatedBytes();
    }

    private static void useAll(BellowsWords x) {
        x.row(0, 0, 40);
        x.row(1, 0, 40);
        x.set(0, 0, 7);
        x.copy(0, 0, 1, 1, 30);
        for (int i = 0; i < BUSY.length(); i++) {
            x.feed(BUSY.charAt(i));
        }
        x.house();
        x.image(0);
        x.days(24);
        x.undo();
        x.restore(0);
        x.peg(0, 0);
        x.move(0, 1);
        x.light(0, 3);
        x.weather(9);
        for (int what = 0; what < 5; what++) {
            x.pair(1, what);
            x.hearth(1, what);
            x.empty(what);
            x.best(1, 30, what);
            x.draw(30, what);
            x.fits(1, 0, 0, 12, what);
            x.chance(1, 8, 5, what);
            x.drawn(60, 9, what);
            x.ask(what, 0);
            x.ask(what, 1);
            x.as(what, 1);
            x.kind(what);
            x.trace(what);
            x.cold(what);
        }
        for (int what = 0; what < 10; what++) {
            x.count(what);
        }
        x.breath(1, 60);
        x.fire(1, 60);
        x.lit(60);
        x.rests(0, 1, 20, -1);
        x.drop(0);
        x.fault();
        x.status();
    }
}
