/**
 * Two objects with the same calls behind them. What is refused to the first alone, or only asked of it, must leave both alike
 * in all that can be seen of them, but for how often something was refused.
 */
final class Twins {
    private static final int FIRST_STATUS = 5;
    private static final int MOST_SEEN_LEAVES = 6;

    private final Run first = new Run();
    private final Run second = new Run();
    // How much more often the first has been refused something, now and by the image.
    private int[] more = new int[4];
    private int[] moreKept = new int[4];
    private boolean sameFault = true;

    /** Twins with something of all that can be changed, an image of other things, and bytes on the tape. */
    static Twins busy() {
        Twins twins = new Twins().text("plain 5;sewn 4;told 3 by page*3;gone 0 4;copy 0 1;copy 1;lead 9 8 7 6 5 4 3 2 1 0;");
        twins.both("tear", 0, 0).both("sheet", 1, 0).both("add", 2, 3).both("add", 2, 1).both("add", 0, 1);
        twins.both("stick", 0, 1).both("stick", 2, 0).both("stick", 2, 2).both("shares", 2, 2).both("least", 2, 30);
        twins.both("tear", 0, 0).both("tear", 0, 3).both("image").both("put").both("tear", 2, 2).both("tear", 2, 0);
        twins.both("add", 2, 18);
        return twins.both("loosen").both("stick", 0, 2).feed("odd 2;gone 0 1;copy 0;");
    }

    Twins both(String call, Object... arguments) {
        String answer = first.sameAs(second, call, arguments);
        if (call.equals("image")) {
            moreKept = more.clone();
        } else if (call.equals("restore") && answer.equals("1")) {
            more = moreKept.clone();
        }
        return this;
    }

    Twins text(String text) {
        feed(text);
        return both("shelf", text.length());
    }

    Twins feed(String text) {
        first.feed(text);
        second.feed(text);
        return this;
    }

    /** What the first alone is asked, and answers. */
    Twins due(long want, String call, Object... arguments) {
        first.due(want, call, arguments);
        return this;
    }

    Twins noSuch(String call, Object... arguments) {
        first.noSuch(call, arguments);
        return this;
    }

    Twins illegal(String call, Object... arguments) {
        first.illegal(call, arguments);
        return this;
    }

    /** What is refused to the first alone, and counted. */
    Twins refused(int status, String call, Object... arguments) {
        more[status]++;
        return due(call.equals("add") ? 0 : -1, call, arguments);
    }

    /** A text with a fault, that the first alone gets; both tapes are empty before. */
    Twins fault(int want, int place, String text) {
        more[0]++;
        sameFault = false;
        first.fault(want, place, text);
        return this;
    }

    /** All that can be seen of both is alike, what is undone step by step, what the image keeps and what the tape holds, too. */
    void alike() {
        look();
        undo();
        if (first.sameAs(second, "restore").equals("1")) {
            more = moreKept.clone();
            look();
            undo();
        }
        both("shelf", Integer.parseInt(second.answer("count", 4))).both("fault").both("count", 0).both("count", 1);
    }

    private void look() {
        if (sameFault) {
            both("fault");
        }
        for (int what = 0; what < 20; what++) {
            boolean isStatus = what >= FIRST_STATUS && what < FIRST_STATUS + more.length;
            long due = Long.parseLong(second.answer("count", what)) + (isStatus ? more[what - FIRST_STATUS] : 0);
            first.due(due, "count", what);
        }
        int books = Integer.parseInt(second.answer("count", 0));
        for (int book = 0; book < books; book++) {
            lookAt(book);
        }
        for (int i = 0; i < 4; i++) {
            both("child", i).both("torn", i);
        }
    }

    private void lookAt(int book) {
        both("book", book, 0).both("book", book, 2).both("book", book, 3).both("sum", book).both("bought", book);
        int leaves = Integer.parseInt(first.sameAs(second, "book", book, 1));
        for (int leaf = 0; leaf < Math.min(leaves, MOST_SEEN_LEAVES); leaf++) {
            both("isThere", book, leaf).both("read", book, 2 * leaf + 1, 2 * leaf + 1, 1, 0, false);
            both("read", book, 2 * leaf + 2, 2 * leaf + 2, 1, 0, false);
        }
    }

    private void undo() {
        both("wrong");
        int last = Integer.parseInt(second.answer("count", 0)) - 1;
        while (!first.sameAs(second, "put").equals("-1")) {
            both("sum", last);
        }
        while (!first.sameAs(second, "loosen").equals("-1")) {
            both("read", Math.max(last, 0), 1, 2, 1, 0, true);
        }
    }
}
