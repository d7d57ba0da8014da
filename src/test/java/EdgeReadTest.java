/** The document's sentences on promises 34 to 40: sticking, reading, sharing, the fewest leaves, at their edges. */
public final class EdgeReadTest {
    private static final int LEAST = Integer.MIN_VALUE;
    private static final int MOST = Integer.MAX_VALUE;
    private static final long MOST_SUM = 1000000000000000000L;

    public static void main(String[] args) {
        stickSides();
        stick();
        stickToTheNext();
        stickRefused();
        stickNoLeaf();
        tornStaysStuck();
        loosen();
        read();
        readEach();
        readSeen();
        readBuzz();
        readNoPages();
        readWrong();
        shares();
        sharesFirst();
        sharesSpent();
        sharesWrong();
        child();
        least();
        leastFirst();
        leastNone();
        leastSpent();
        leastWrong();
        torn();
        Run.end("EdgeReadTest");
    }

    private static Run hidden(Run run, int book, int pages, int... hidden) {
        for (int page = 1; page <= pages; page++) {
            boolean is = false;
            for (int one : hidden) {
                is |= one == page;
            }
            run.due(is ? 0 : 1, "read", book, page, page, 1, 0, true);
        }
        return run;
    }

    private static void stickSides() {
        Run.about("the PAGES in between, the back of the one and the front of the other, aren't to be seen");
        Run run = Run.of("plain 4;plain 4;").due(1, "stick", 0, 0);
        hidden(run, 0, 8, 2, 3);
        hidden(run, 1, 8);
        hidden(run.due(2, "stick", 0, 2), 0, 8, 2, 3, 6, 7);
        hidden(run.due(3, "stick", 0, 1), 0, 8, 2, 3, 4, 5, 6, 7);
        hidden(run.due(4, "stick", 1, 2), 1, 8, 6, 7);
        run.due(36, "sum", 0).due(8, "figures", 0, 10).due(3, "number", 0, 3).due(2, "page", 0, 2);
    }

    private static void stick() {
        Run.about("STUCK: how many are.");
        Run run = Run.of("plain 21;plain 2;");
        for (int leaf = 0; leaf < 20; leaf++) {
            run.due(leaf + 1, "stick", 0, leaf).due(leaf + 1, "count", 9);
        }
        Run.about("STUCK (at most 20 of all BOOKS)");
        run.due(-1, "stick", 1, 0).due(1, "count", 8).due(20, "count", 9).due(19, "loosen").due(20, "stick", 1, 0);
        run.due(-1, "stick", 0, 19).due(2, "count", 8).due(19, "loosen").due(20, "stick", 0, 19).due(-1, "stick", 1, 0);
    }

    private static void stickToTheNext() {
        Run.about("a LEAF of a BOOK to the next one (the LEAF behind it by number), both being there then, neither side being STUCK already");
        // The next one by number, whether it is there or not: over a gap nothing sticks.
        Run run = Run.of("plain 4;gone 0 1;").due(-1, "stick", 0, 0).due(-1, "stick", 0, 1).due(1, "stick", 0, 2);
        run.due(-1, "stick", 0, 2).due(-1, "stick", 0, 3).due(4, "count", 8).due(1, "count", 9);
        hidden(run, 0, 8, 3, 4, 6, 7);
        // They are there when they are stuck, and may be torn since.
        run.due(2, "tear", 0, 3).due(3, "tear", 0, 2).due(-1, "stick", 0, 2).due(1, "count", 9).due(1, "put").due(1, "put");
        hidden(run, 0, 8, 3, 4, 6, 7);
    }

    private static void stickRefused() {
        Run.about("NONE (STATUS 3): there are 20, it is the last LEAF, one is GONE, one of both PAGES is hidden already.");
        Run run = Run.of("plain 5;plain 1;plain 2000;gone 0 3;");
        run.due(-1, "stick", 0, 4).due(1, "count", 8).due(-1, "stick", 1, 0).due(2, "count", 8).due(-1, "stick", 2, 1999);
        run.due(3, "count", 8).due(-1, "stick", 0, 2).due(4, "count", 8).due(-1, "stick", 0, 3).due(5, "count", 8);
        run.due(1, "stick", 0, 0).due(-1, "stick", 0, 0).due(6, "count", 8).due(2, "stick", 0, 1).due(-1, "stick", 0, 1);
        run.due(7, "count", 8).due(3, "stick", 2, 1998).due(-1, "stick", 2, 1998).due(8, "count", 8).due(3, "count", 9);
        // A leaf of another book, of the same number, isn't stuck.
        run.due(4, "stick", 2, 0).due(5, "stick", 2, 1).due(8, "count", 8);
        Run both = Run.of("plain 3;").due(1, "tear", 0, 1).due(-1, "stick", 0, 0).due(-1, "stick", 0, 1).due(1, "put");
        both.due(1, "stick", 0, 0).due(2, "stick", 0, 1).due(2, "count", 8);
    }

    private static void stickNoLeaf() {
        Run.about("NoSuchElementException (ahead): no such BOOK, LEAF.");
        Run run = Run.of("plain 3;").noSuch("stick", 0, -1).noSuch("stick", 0, 3).noSuch("stick", 0, LEAST).noSuch("stick", 0, MOST);
        run.noSuch("stick", 1, 0).noSuch("stick", -1, 0).noSuch("stick", MOST, 0).noSuch("stick", LEAST, 2);
        Run.about("3 what can't be STUCK (not counted where an exception tells it)");
        run.due(0, "count", 8).due(0, "count", 9).due(-1, "stick", 0, 2).due(1, "count", 8).noSuch("stick", 0, 3).due(1, "count", 8);
    }

    private static void tornStaysStuck() {
        Run.about("(One that is TORN stays STUCK to nothing: its own PAGE and the other one's are hidden as they were; it doesn't bar anything.)");
        Run run = Run.of("sewn 4;").due(1, "stick", 0, 1).due(1, "tear", 0, 2).due(1, "count", 9);
        hidden(run, 0, 8, 4, 5, 6);
        run.due(1, "put");
        hidden(run, 0, 8, 4, 5);
        // Either leaf, both, or its sheet can be torn; what is hidden comes back hidden.
        run.due(1, "tear", 0, 1);
        hidden(run, 0, 8, 3, 4, 5);
        run.due(2, "tear", 0, 2).due(1, "put").due(1, "put").due(2, "sheet", 0, 1).due(1, "count", 9).due(18, "sum", 0);
        run.due(2, "put").due(-1, "stick", 0, 1).due(0, "loosen");
        hidden(run, 0, 8);
        // It is loosened even where a leaf is gone, and nothing is hidden then.
        run.due(1, "stick", 0, 1).due(1, "tear", 0, 1).due(0, "loosen").due(1, "put");
        hidden(run, 0, 8);
        // Those beside it can be stuck, and shared, and torn.
        run.due(1, "stick", 0, 1).due(1, "tear", 0, 1).due(2, "stick", 0, 2).due(1, "least", 0, 18).due(2, "torn", 0);
        run.due(2, "seed", 0, 3, 1);
    }

    private static void loosen() {
        Run.about("What was STUCK last is LOOSENED: how many are left. NONE: there are none.");
        Run run = new Run().due(-1, "loosen").text(0, "plain 4;plain 4;").due(-1, "loosen");
        run.due(1, "stick", 0, 2).due(2, "stick", 1, 0).due(3, "stick", 0, 0).due(2, "loosen");
        hidden(run, 0, 8, 6, 7);
        hidden(run, 1, 8, 2, 3);
        run.due(1, "loosen");
        hidden(run, 1, 8);
        run.due(-1, "stick", 0, 2).due(0, "loosen").due(-1, "loosen").due(-1, "loosen").due(0, "count", 9).due(1, "count", 8);
    }

    private static void read() {
        Run.about("READ ALOUD: NUMBERS together (many false), how many (true). NoSuchElementException: also no such PAGES.");
        Run run = Run.of("even 3;plain 2000;told 2000 by 9999*10+9;").due(2, "read", 0, 1, 1, 1, 0, false);
        run.due(1, "read", 0, 1, 1, 1, 0, true).due(12, "read", 0, 6, 6, 1, 0, false).due(42, "read", 0, 1, 6, 1, 0, false);
        run.due(6, "read", 0, 1, 6, 1, 0, true).due(8002000, "read", 1, 1, 4000, 1, 0, false).due(4000, "read", 1, 1, 4000, 1, 0, true);
        run.due(4000L * 99999, "read", 2, 1, 4000, 1, 0, false).due(4000, "read", 1, 4000, 4000, 1, 0, false);
    }

    private static void readEach() {
        Run.about("from a PAGE on each so manieth (1 to 100) up to another PAGE");
        Run run = Run.of("plain 51;plain 2000;").due(102, "read", 0, 1, 102, 1, 0, true);
        run.due(1, "read", 0, 1, 100, 100, 0, true).due(2, "read", 0, 1, 101, 100, 0, true).due(102, "read", 0, 1, 101, 100, 0, false);
        run.due(2, "read", 0, 2, 102, 100, 0, true).due(1, "read", 0, 3, 102, 100, 0, true).due(2, "read", 0, 1, 101, 99, 0, true);
        run.due(1 + 3 + 5, "read", 0, 1, 5, 2, 0, false).due(1 + 3 + 5, "read", 0, 1, 6, 2, 0, false);
        run.due(40, "read", 1, 1, 4000, 100, 0, true).due(40, "read", 1, 100, 4000, 100, 0, true);
        run.due(2, "read", 0, 1, 2, 1, 0, true).due(1, "read", 0, 1, 2, 2, 0, true);
    }

    private static void readSeen() {
        Run.about("those that are not on a LEAF that is GONE, and can be seen, and bear a NUMBER");
        Run run = Run.of("roman 3 5;told 2 by page-2;gone 0 4;").due(1, "stick", 0, 2).due(2, "tear", 0, 3);
        // Pages 1 to 3 bear none, 6 and 7 are hidden, 7 and 8 torn, 9 and 10 gone.
        run.due(1 + 2, "read", 0, 1, 10, 1, 0, false).due(2, "read", 0, 1, 10, 1, 0, true).due(1, "put");
        run.due(1 + 2 + 5, "read", 0, 1, 10, 1, 0, false).due(0, "loosen").due(1 + 2 + 3 + 4 + 5, "read", 0, 1, 10, 1, 0, false);
        run.due(3, "read", 1, 1, 4, 1, 0, false).due(2, "read", 1, 1, 4, 1, 0, true).due(0, "read", 1, 1, 2, 1, 0, true);
        // Each so manieth counts pages, whether they are read or not.
        run.due(2 + 5, "read", 0, 2, 10, 3, 0, false);
    }

    private static void readBuzz() {
        Run.about("unless it is a BUZZ (of a BUZZ number 2 to 9: it divides it, or is written in it as a figure; with 0 none is)");
        Run run = Run.of("plain 50;roman 1 1;");
        run.due(100, "read", 0, 1, 100, 1, 0, true).due(1, "read", 0, 1, 2, 1, 2, true).due(1, "read", 0, 21, 22, 1, 3, true);
        for (int buzz = 2; buzz <= 9; buzz++) {
            run = Run.of("plain 50;roman 1 1;");
            int many = 0;
            for (int number = 1; number <= 100; number++) {
                boolean written = number % 10 == buzz || number / 10 % 10 == buzz;
                boolean is = number % buzz == 0 || written;
                run.due(is ? 0 : number, "read", 0, number, number, 1, buzz, false);
                many += is ? 0 : 1;
            }
            run.due(many, "read", 0, 1, 100, 1, buzz, true).due(0, "read", 1, 1, 1, 1, buzz, true).due(1, "read", 1, 2, 2, 1, buzz, true);
        }
    }

    private static void readNoPages() {
        Run.about("NoSuchElementException: also no such PAGES.");
        Run run = Run.of("plain 3;plain 2000;");
        for (int no : new int[] {0, -1, 7, LEAST, MOST}) {
            run.noSuch("read", 0, no, 6, 1, 0, true).noSuch("read", 0, 1, no, 1, 0, true).noSuch("read", 0, no, no, 1, 0, false);
            // Ahead of all that is illegal.
            run.noSuch("read", 0, no, 1, 0, 0, true).noSuch("read", 0, 6, no, 1, 1, true).noSuch("read", 0, no, 6, 101, 10, true);
        }
        run.noSuch("read", 1, 1, 4001, 1, 0, true).noSuch("read", 1, 4001, 4001, 1, 0, true).due(1, "read", 1, 4000, 4000, 1, 0, true);
        run.noSuch("read", 2, 1, 1, 1, 0, true).noSuch("read", -1, 1, 1, 1, 0, true).noSuch("read", 2, 2, 1, 0, 1, true);
        run.noSuch("read", MOST, 1, 1, 1, 0, true).noSuch("read", LEAST, 1, 1, 1, 0, true);
    }

    private static void readWrong() {
        Run.about("IllegalArgumentException (behind that): the second PAGE is below the first, so manieth, BUZZ (0, 2 to 9).");
        Run run = Run.of("plain 3;plain 2000;").illegal("read", 0, 2, 1, 1, 0, true).illegal("read", 0, 6, 5, 1, 0, false);
        run.illegal("read", 1, 4000, 1, 1, 0, true).due(1, "read", 0, 2, 2, 1, 0, true);
        for (int each : new int[] {0, -1, 101, LEAST, MOST}) {
            run.illegal("read", 0, 1, 6, each, 0, true).illegal("read", 0, 6, 6, each, 2, false);
        }
        for (int buzz : new int[] {1, -1, 10, 11, LEAST, MOST}) {
            run.illegal("read", 0, 1, 6, 1, buzz, true).illegal("read", 0, 1, 6, 100, buzz, false);
        }
        run.due(6, "read", 0, 1, 6, 1, 0, true).due(1, "read", 0, 1, 6, 100, 9, true).due(3, "read", 0, 1, 6, 1, 2, true);
    }

    private static void shares() {
        Run.about("SHARED: the greatest sum less the least; it is kept; -2: SPENT (what is kept stays).");
        Run run = Run.of("plain 4;plain 10;plain 1;plain 1;gone 3 0;").due(0, "shares", 0, 2);
        // 3 and 15, 7 and 11.
        run.due(0, "child", 0).due(1, "child", 1).due(1, "child", 2).due(0, "child", 3).noSuch("child", 4);
        run.due(3, "shares", 2, 2).due(0, "child", 0).noSuch("child", 1).due(3, "shares", 2, 4).due(0, "child", 0);
        run.due(0, "shares", 3, 3).noSuch("child", 0).due(0, "shares", 1, 2).noSuch("child", 10);
    }

    private static void sharesFirst() {
        Run.about("so that the greatest sum of NUMBERS that one has, less the least, is least; of like ways the first as a row of CHILDREN by LEAVES");
        Run run = Run.of("told 4 by 5;told 3 by page*0;told 10 by 1;").due(0, "shares", 0, 2);
        run.due(0, "child", 0).due(0, "child", 1).due(1, "child", 2).due(1, "child", 3);
        run.due(10, "shares", 0, 3).due(0, "child", 0).due(0, "child", 1).due(1, "child", 2).due(2, "child", 3);
        run.due(0, "shares", 0, 4).due(0, "child", 0).due(1, "child", 1).due(2, "child", 2).due(3, "child", 3);
        // Leaves that bear nothing are all the first child's.
        run.due(0, "shares", 1, 4).due(0, "child", 0).due(0, "child", 1).due(0, "child", 2);
        run.due(2, "shares", 2, 3).due(0, "child", 3).due(1, "child", 4).due(1, "child", 6).due(2, "child", 7).due(2, "child", 9);
    }

    private static void sharesSpent() {
        Run.about("SHARED among 2 to 4 CHILDREN are all LEAVES of a BOOK that are there (at most 10, else SPENT)");
        Run run = Run.of("plain 11;plain 2000;plain 10;").due(-2, "shares", 0, 2).noSuch("child", 0).due(-2, "shares", 1, 4);
        run.due(1, "tear", 0, 10).due(0, "shares", 0, 2).due(0, "child", 0).due(1, "put").due(-2, "shares", 0, 2).due(0, "child", 0);
        run.due(0, "child", 0).noSuch("child", 10).due(0, "shares", 2, 2).due(-2, "shares", 1, 2).noSuch("child", 10);
        Run most = Run.of("plain 70;gone 0" + Run.row(0, 59) + ";").due(-2, "shares", 0, 3).due(60, "tear", 0, 69);
        most.due(60, "book", 0, 2).noSuch("child", 0);
        run = Run.of("plain 3;").due(1, "tear", 0, 1).due(8, "shares", 0, 2).due(0, "child", 0).due(1, "child", 1).noSuch("child", 2);
    }

    private static void sharesWrong() {
        Run.about("IllegalArgumentException (behind NoSuchElementException): CHILDREN.");
        Run run = Run.of("plain 11;plain 2;");
        for (int no : new int[] {1, 0, -1, 5, LEAST, MOST}) {
            run.illegal("shares", 1, no).illegal("shares", 0, no).noSuch("shares", 2, no).noSuch("shares", -1, no);
        }
        run.noSuch("shares", 2, 2).noSuch("shares", MOST, 4).noSuch("shares", LEAST, 3).noSuch("child", 0);
        run.due(4, "shares", 1, 2).due(7, "shares", 1, 3).due(7, "shares", 1, 4).illegal("shares", 1, 5).due(1, "child", 1);
    }

    private static void child() {
        Run.about("The CHILD that has the i-th LEAF that was there, by what is kept. NoSuchElementException: nothing is kept, there is none.");
        Run run = new Run().noSuch("child", 0).noSuch("child", -1).text(0, "plain 3;plain 2;gone 0 0;").noSuch("child", 0);
        run.due(4, "shares", 0, 2).due(0, "child", 0).due(1, "child", 1);
        for (int no : new int[] {-1, 2, LEAST, MOST}) {
            run.noSuch("child", no);
        }
        // It was there: what is torn since doesn't matter.
        run.due(2, "tear", 0, 1).due(0, "child", 0).due(1, "child", 1).due(11, "shares", 0, 2).due(0, "child", 0).noSuch("child", 1);
        run.due(1, "put").noSuch("child", 1).noSuch("shares", 2, 2).due(0, "child", 0);
    }

    private static void least() {
        Run.about("LEAST TORN: how many; they are kept; NONE: none; -2: SPENT (in both what is kept stays).");
        // Leaves 0, 2, 3, 4 are worth 3, 11, 15, 19.
        Run run = Run.of("plain 5;gone 0 1;").due(0, "least", 0, 48).noSuch("torn", 0).due(1, "least", 0, 45).due(0, "torn", 0);
        run.noSuch("torn", 1).due(1, "least", 0, 29).due(4, "torn", 0).due(2, "least", 0, 34).due(0, "torn", 0).due(2, "torn", 1);
        run.due(3, "least", 0, 19).due(0, "torn", 0).due(3, "torn", 2).due(4, "least", 0, 0).due(0, "torn", 0).due(4, "torn", 3);
        run.noSuch("torn", 4).due(-1, "least", 0, 47).due(4, "torn", 3).due(-1, "least", 0, 49).due(4, "torn", 3);
        run.due(0, "least", 0, 48).noSuch("torn", 0).due(0, "count", 6).due(1, "book", 0, 2).due(48, "sum", 0);
    }

    private static void leastFirst() {
        Run.about("of as few the first as a row of rising LEAVES");
        Run run = Run.of("told 30 by 1;told 6 by (leaf<3)*4+1;").due(0, "least", 0, 60).due(1, "least", 0, 58).due(0, "torn", 0);
        run.due(4, "least", 0, 52).due(0, "torn", 0).due(1, "torn", 1).due(2, "torn", 2).due(3, "torn", 3);
        // One of ten is fewer than two or more of two; of those of two the first is leaf 3.
        run.due(1, "least", 1, 36 - 10).due(0, "torn", 0).due(1, "least", 1, 34).due(3, "torn", 0).due(2, "least", 1, 24).due(0, "torn", 0);
        run.due(3, "torn", 1).due(2, "least", 1, 32).due(3, "torn", 0).due(4, "torn", 1).due(1, "tear", 1, 3).due(2, "least", 1, 30);
        run.due(4, "torn", 0).due(5, "torn", 1);
    }

    private static void leastNone() {
        Run.about("the fewest LEAVES (at most 4) to be TORN out of a BOOK, of those there (at most 30, else SPENT), so that THE SUM is S");
        Run run = Run.of("told 30 by 1;told 5 by 1;plain 1;gone 2 0;").due(4, "least", 0, 52).due(-1, "least", 0, 50).due(3, "torn", 3);
        run.due(-1, "least", 0, 0).due(-1, "least", 0, 59).due(-1, "least", 0, 61).due(-1, "least", 0, MOST_SUM);
        run.due(-1, "least", 1, 0).due(4, "least", 1, 2).due(0, "least", 2, 0).noSuch("torn", 0).due(-1, "least", 2, 1);
        run.due(-1, "least", 0, 1L << 32).due(-1, "least", 0, (1L << 32) + 60);
    }

    private static void leastSpent() {
        Run.about("of those there (at most 30, else SPENT)");
        Run run = Run.of("plain 31;plain 2000;plain 91;gone 2" + Run.row(0, 60) + ";").due(-2, "least", 0, 0).noSuch("torn", 0);
        run.due(-2, "least", 1, 5).due(-2, "least", 2, 5).due(1, "tear", 0, 0).due(1, "least", 0, 1950 - 7).due(1, "torn", 0);
        run.due(1, "put").due(-2, "least", 0, 1943).due(1, "torn", 0);
        Run full = Run.of("plain 90;gone 0" + Run.row(0, 60) + ";").due(0, "least", 0, 180 * 181 / 2 - 120 * 121 / 2).noSuch("torn", 0);
        full.due(1, "least", 0, 180 * 181 / 2 - 120 * 121 / 2 - 359).due(89, "torn", 0);
    }

    private static void leastWrong() {
        Run.about("IllegalArgumentException (behind NoSuchElementException): S is below 0, or above 10 to the power of 18.");
        Run run = Run.of("plain 3;plain 31;");
        for (long no : new long[] {-1, MOST_SUM + 1, Long.MIN_VALUE, Long.MAX_VALUE}) {
            run.illegal("least", 0, no).illegal("least", 1, no).noSuch("least", 2, no).noSuch("least", -1, no);
        }
        run.noSuch("least", 2, 0).noSuch("least", MOST, 0).noSuch("least", LEAST, MOST_SUM).noSuch("torn", 0);
        run.due(3, "least", 0, 0).due(-1, "least", 0, MOST_SUM).due(-2, "least", 1, 0).due(-2, "least", 1, MOST_SUM).due(2, "torn", 2);
    }

    private static void torn() {
        Run.about("The i-th LEAF of those that are kept. NoSuchElementException: none are kept, there is none.");
        Run run = new Run().noSuch("torn", 0).noSuch("torn", -1).text(0, "plain 5;").noSuch("torn", 0).due(-1, "least", 0, 54);
        run.noSuch("torn", 0).due(2, "least", 0, 55 - 26).due(1, "torn", 0).due(4, "torn", 1);
        for (int no : new int[] {-1, 2, LEAST, MOST}) {
            run.noSuch("torn", no);
        }
        run.due(1, "tear", 0, 1).due(1, "torn", 0).due(0, "least", 0, 48).noSuch("torn", 0);
    }
}
