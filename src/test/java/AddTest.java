/** Promises 15 and 16: a child's sums. */
public final class AddTest {
    public static void main(String[] args) {
        Run.about("ADDED: a child tells sums of the first 1, 2 .. PAGES of a BOOK (of what was printed, whatever is GONE), one after another "
                + "(at most 60): the first wrong one.");
        Run run = Run.of("roman 2 40;even 1;gone 0 2;told 2 by page-2;");
        run.due(-1, "wrong").noSuch("add", 3, 0).noSuch("add", -1, 0).noSuch("add", Integer.MAX_VALUE, 0);
        // Whatever is gone, what was printed counts; the first two pages bear none.
        long[] sums = {0, 0, 1, 3, 6, 10};
        for (int i = 0; i < sums.length; i++) {
            run.due(1, "add", 0, sums[i]).due(i + 1, "count", 3);
        }
        run.due(0, "add", 1, 2).due(0, "add", 2, 0).due(2, "count", 7).due(6, "count", 3).noSuch("add", 3, 0);
        run.due(-1, "wrong").due(0, "count", 3).due(-1, "wrong");
        run.due(1, "add", 1, 2).due(1, "add", 1, 6).due(0, "add", 1, 12).due(0, "add", 1, 6).due(4, "count", 7);
        run.due(2, "count", 3).due(-1, "wrong");
        run.due(0, "add", 0, 9).due(1, "add", 0, 0).due(0, "add", 0, 0).due(3, "count", 3).due(0, "wrong");
        run.due(1, "add", 2, 0).due(1, "add", 2, 0).due(0, "add", 2, -1).due(1, "add", 2, 3).due(2, "wrong");
        run.due(0, "add", 1, Long.MAX_VALUE).due(0, "add", 1, Long.MIN_VALUE).due(0, "wrong").due(4, "count", 7);
        Run many = Run.of("plain 31;plain 30;");
        for (long page = 1; page <= 60; page++) {
            many.due(1, "add", 0, page * (page + 1) / 2);
        }
        many.due(0, "add", 0, 61 * 31).due(1, "count", 7).due(60, "count", 3).due(-1, "wrong");
        for (long page = 1; page <= 60; page++) {
            many.due(page == 60 ? 0 : 1, "add", 1, page == 60 ? 0 : page * (page + 1) / 2);
        }
        many.due(0, "add", 1, 61 * 31).due(2, "count", 7).due(59, "wrong").due(0, "count", 3);
        Run torn = Run.of("plain 2;").due(1, "add", 0, 1).due(1, "tear", 0, 0).due(1, "add", 0, 3).due(1, "add", 0, 6);
        torn.due(-1, "wrong");
        Run.end("AddTest");
    }
}
