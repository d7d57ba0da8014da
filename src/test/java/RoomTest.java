import com.sun.management.ThreadMXBean;
import java.lang.management.ManagementFactory;
import java.util.NoSuchElementException;

/** All calls of a run live in one room: a new object is small, and calls that answer make nothing. */
public final class RoomTest {
    private static final ThreadMXBean THREADS = (ThreadMXBean) ManagementFactory.getThreadMXBean();
    private static long answers = 0;

    public static void main(String[] args) {
        oneOfEach(new TornLeaves());
        long before = made();
        TornLeaves x = new TornLeaves();
        long object = made() - before;
        // 40000 elements of up to 8 bytes; the room holds 7.3 million.
        Run.isTrue("a new object takes " + object + " bytes", object < 200000);
        before = made();
        for (int i = 0; i < 8; i++) {
            oneOfEach(x);
        }
        long calls = made() - before;
        // Beside what calls that answer make (nothing) there are the exceptions of one call each round.
        Run.isTrue("calls take " + calls + " bytes", calls < 8 * 1000);
        Run.isTrue("calls were made", answers != 0);
        System.out.println("a new object: " + object + " bytes; calls: " + calls + " bytes");
        Run.end("RoomTest");
    }

    private static long made() {
        return THREADS.getThreadAllocatedBytes(Thread.currentThread().getId());
    }

    private static final int[] TEXT = fours("plain 9;told 30 by (page+leaf*side)*(not page=3);sewn 40;skip 3 9;"
            + "gone 0 1;copy 0 2;copy 0 1;lead 9 9 9 9 9 9 9 9 9 9;");

    private static int[] fours(String text) {
        int[] fours = new int[30];
        for (int i = 0; i < 120; i++) {
            fours[i / 4] = fours[i / 4] << 8 | (i < text.length() ? text.charAt(i) : ' ');
        }
        return fours;
    }

    private static void oneOfEach(TornLeaves x) {
        for (int i = 0; i < 30; i += 5) {
            answers += x.feed(TEXT[i], TEXT[i + 1], TEXT[i + 2], TEXT[i + 3], TEXT[i + 4]);
        }
        answers += x.shelf(120) + x.fault() + x.count(0) + x.book(0, 1) + (x.isThere(0, 1) ? 1 : 0) + x.number(1, 5);
        answers += x.page(1, 30) + x.sum(1) + x.sum(3) + x.figures(1, 10) + x.tear(0, 2) + x.sheet(2, 3) + x.put();
        answers += (x.add(1, 1) ? 1 : 0) + x.wrong() + x.fits(1000000, -1) + x.leaf(19861, 0) + x.several(999, 5, -1);
        answers += x.ways(1000, 20, 40) + x.sewn(18) + x.street(20, 0, true) + x.said(19861, 10, 480) + x.tells(19861);
        answers += x.far(0) + x.lacks(99999999) + x.skip(7, 1234567, true) + x.whole(0) + x.bought(0) + x.index(0, 77);
        answers += x.seed(2, 9, 30) + x.way(18, 2, 4, 0) + x.between(1, 1000000000, 7) + x.stick(1, 4) + x.loosen();
        answers += x.read(1, 1, 60, 1, 7, false) + x.shares(0, 4) + x.child(0) + x.least(1, 7) + (x.restore() ? 1 : 0);
        x.image();
        try {
            answers += x.torn(99);
        } catch (NoSuchElementException e) {
            answers++;
        }
    }
}
