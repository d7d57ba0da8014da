/** The document's sentences on promises 1 to 11 and 30: their edges, the wrong inputs, and what comes ahead of what. */
public final class EdgeBookTest {
    private static final int LEAST = Integer.MIN_VALUE;
    private static final int MOST = Integer.MAX_VALUE;

    public static void main(String[] args) {
        newObject();
        feed();
        tapeRead();
        allAnew();
        tapeTooShort();
        fault();
        count();
        book();
        isThere();
        number();
        page();
        sum();
        figures();
        index();
        indexOfSewnBooks();
        indexOfNone();
        indexOrNone();
        mostCalls();
        Run.end("EdgeBookTest");
    }

    private static void newObject() {
        Run.about("No BOOKS; LEAD 100 of each.");
        Run run = new Run();
        for (int what = 0; what <= 19; what++) {
            run.due(what < 10 ? 0 : 100, "count", what);
        }
        run.noSuch("book", 0, 0).noSuch("isThere", 0, 0).noSuch("number", 0, 1).noSuch("page", 0, 1).noSuch("sum", 0);
        run.noSuch("figures", 0, 0).noSuch("tear", 0, 0).noSuch("sheet", 0, 0).noSuch("add", 0, 0).noSuch("whole", 0);
        run.noSuch("bought", 0).noSuch("index", 0, 1).noSuch("seed", 0, 0, 0).noSuch("stick", 0, 0).noSuch("shares", 0, 2);
        run.noSuch("read", 0, 1, 1, 1, 0, true).noSuch("least", 0, 0).noSuch("child", 0).noSuch("torn", 0);
        run.due(-1, "fault").due(-1, "put").due(-1, "wrong").due(-1, "loosen").due(0, "restore").due(162, "far", 0);
        run.due(0, "shelf", 0).illegal("shelf", 1);
    }

    private static void feed() {
        Run.about("Twenty bytes come behind the tape, of each number the highest first: how many it has");
        Run run = new Run().due(20, "feed", 0x706c6169, 0x6e20393b, 0x676f6e65, 0x20302038, 0x20373b20).due(20, "count", 4);
        run.due(40, "feed", 0x6c656164, 0x20312032, 0x20332034, 0x20352036, 0x20372038).due(60, "feed", 0x2039203b, 0x3b, 0, 0, 0);
        run.due(1, "shelf", 43).due(43, "fault").due(0, "count", 4);
        Run.of("").due(20, "feed", -1, -1, -1, -1, -1).due(1, "shelf", 1).due(0, "fault");
        // All 256 bytes come as they are: none of the high ones is a token.
        new Run().due(20, "feed", 0x20202080, 0, 0, 0, 0).due(1, "shelf", 4).due(3, "fault");
        new Run().due(20, "feed", 0x200a200a, LEAST, MOST, 0, 0).due(1, "shelf", 5).due(4, "fault");
        Run.about("NONE, and none come, if it would have more than 500");
        Run full = new Run().feed("plain 9;" + " ".repeat(472)).due(480, "count", 4);
        full.due(500, "feed", 0x6f646420, 0x333b2020, 0x20202020, 0x20202020, 0x2020203b);
        full.due(-1, "feed", 0x20202020, 0x20202020, 0x20202020, 0x20202020, 0x20202020).due(500, "count", 4);
        full.due(-1, "feed", 0, 0, 0, 0, 0).illegal("shelf", 501).due(500, "count", 4).due(1, "shelf", 500).due(499, "fault");
        full.due(20, "feed", 0, 0, 0, 0, 0).due(20, "count", 4);
    }

    private static void tapeRead() {
        Run.about("The tape's first n bytes (it is empty then) are a SHELF, all anew: 0 (STATUS stays), or the FAULT");
        Run run = new Run().feed("plain 1;odd 2;even 3;").due(40, "count", 4).due(0, "shelf", 14).due(2, "count", 0);
        run.due(0, "count", 4).illegal("shelf", 1);
        run.feed("plain 1;odd 2;even 3;").due(0, "shelf", 0).due(0, "count", 0).due(0, "count", 4);
        run.feed("plain 1;odd 2;").due(1, "shelf", 7).due(7, "fault").due(0, "count", 4).due(1, "count", 5);
        run.feed("plain 1;odd 2;").due(0, "shelf", 20).due(2, "count", 0).due(1, "count", 5);
    }

    private static void allAnew() {
        Run.about("What was ADDED, STUCK, SHARED, LEAST TORN, the image are gone.");
        Run run = busy().text(0, "plain 5;").due(0, "count", 2).due(0, "count", 3).due(0, "count", 9);
        run.noSuch("child", 0).noSuch("torn", 0).due(0, "restore").due(-1, "wrong").due(-1, "loosen").due(-1, "put");
        run.due(0, "book", 0, 2).due(55, "sum", 0).due(55, "read", 0, 1, 10, 1, 0, false).due(0, "count", 1);
        run.due(100, "count", 10).due(1, "count", 0);
        Run.about("0 (STATUS stays)");
        run.due(0, "count", 5).due(1, "count", 6).due(1, "count", 7).due(1, "count", 8);
        Run.about("or the FAULT (all else stays, but STATUS)");
        Run same = busy().text(1, "odd 7;lead 0 0 0 0 0 0 0 0 0 0;gone 0 1;copy 0;x").due(1, "count", 5).due(47, "fault");
        same.due(1, "count", 2).due(2, "count", 3).due(1, "count", 9).due(0, "child", 0).due(1, "child", 2).due(1, "torn", 0);
        same.due(2, "count", 0).due(0, "book", 0, 0).due(5, "book", 0, 1).due(2, "book", 0, 2).due(1, "count", 1);
        same.due(9, "count", 10).due(1, "restore").due(0, "count", 5).due(1, "wrong");
    }

    /** A shelf with something of all that a new shelf ends. */
    private static Run busy() {
        Run run = Run.of("plain 5;odd 2;gone 0 4;copy 0;lead 9 9 9 9 9 9 9 9 9 9;").due(2, "tear", 0, 0).due(-1, "tear", 0, 0);
        run.due(1, "add", 0, 1).due(0, "add", 0, 4).due(0, "add", 1, 1).due(1, "stick", 0, 1).due(-1, "stick", 0, 1);
        run.due(3, "shares", 0, 2).due(1, "least", 0, 26).answer("image");
        return run;
    }

    private static void tapeTooShort() {
        Run.about("IllegalArgumentException: the tape has not so many, n below 0 (nothing changes).");
        Run run = new Run().illegal("shelf", 1).illegal("shelf", -1).illegal("shelf", MOST).illegal("shelf", LEAST);
        run.feed("plain 1;odd 2;").illegal("shelf", 21).illegal("shelf", -1).illegal("shelf", 500).illegal("shelf", LEAST);
        run.due(20, "count", 4).due(0, "count", 5).due(-1, "fault").due(0, "count", 0).due(0, "shelf", 20).due(2, "count", 0);
        run.text(1, "x").due(0, "fault").illegal("shelf", 1).illegal("shelf", -1).due(0, "fault").due(1, "count", 5);
    }

    private static void fault() {
        Run.about("The place of the latest shelf()'s FAULT; NONE without.");
        Run run = new Run().due(-1, "fault").text(1, "plain 3;x").due(8, "fault").text(2, "plain 0;").due(6, "fault");
        run.due(6, "fault").text(0, "plain 3;").due(-1, "fault").text(1, "!").due(0, "fault").text(0, "").due(-1, "fault");
        run.text(1, "plain 3").due(7, "fault").illegal("shelf", 1).due(7, "fault");
    }

    private static void count() {
        Run.about("0 BOOKS, 1 COPIES, 2 what can be PUT back (LEAVES, SHEETS), 3 sums that were ADDED, 4 bytes of the tape");
        Run run = Run.of("plain 4;odd 4;gone 0 0;copy 0;copy 1;copy 1;lead 0 1 2 3 4 5 6 7 8 9999;");
        run.due(2, "count", 0).due(3, "count", 1).due(0, "count", 2).due(2, "tear", 0, 1).due(2, "sheet", 1, 0).due(2, "count", 2);
        run.due(0, "add", 0, 0).due(1, "add", 0, 3).due(2, "count", 3).feed("x").due(20, "count", 4);
        Run.about("5 to 7 STATUS 0 to 2, 8 STATUS 3, 9 how many are STUCK, 10 to 19 LEAD of figures");
        run.text(1, "x").due(-1, "tear", 0, 0).due(-1, "sheet", 1, 0).due(-1, "seed", 0, 1, 60).due(0, "add", 1, 1).due(0, "add", 1, 1);
        run.due(1, "stick", 1, 1).due(0, "loosen").due(1, "stick", 1, 1);
        for (int i = 0; i < 4; i++) {
            run.due(-1, "stick", 1, 1);
        }
        run.due(1, "count", 5).due(3, "count", 6).due(2, "count", 7).due(4, "count", 8).due(1, "count", 9);
        run.due(0, "count", 10).due(8, "count", 18).due(9999, "count", 19);
        Run.about("NoSuchElementException: another what.");
        run.noSuch("count", -1).noSuch("count", 20).noSuch("count", LEAST).noSuch("count", MOST);
    }

    private static void book() {
        Run.about("Of a BOOK: 0 KIND, 1 LEAVES, 2 how many are GONE, 3 R or F (0 of others)");
        Run run = Run.of("plain 3;sewn 4;roman 99 5;odd 6;even 7;skip 9 8;gone 0 1;");
        int[][] due = {{0, 3, 1, 0}, {1, 4, 0, 0}, {2, 5, 0, 99}, {3, 6, 0, 0}, {4, 7, 0, 0}, {5, 8, 0, 9}};
        for (int book = 0; book < 6; book++) {
            for (int what = 0; what < 4; what++) {
                run.due(due[book][what], "book", book, what);
            }
        }
        Run.of("roman 7 3;").text(0, "told 3 by 1;").due(0, "book", 0, 3).due(6, "book", 0, 0);
        Run.about("NoSuchElementException: no such BOOK (as everywhere), what.");
        for (int no : new int[] {-1, LEAST, MOST}) {
            run.noSuch("book", no, 0).noSuch("book", 0, no).noSuch("book", no, no);
        }
        run.noSuch("book", 6, 0).noSuch("book", 0, 4).noSuch("book", 5, 4).noSuch("book", 7, 3);
    }

    private static void isThere() {
        Run.about("Whether a LEAF is there. NoSuchElementException: also no such LEAF (as everywhere).");
        Run run = Run.of("plain 3;plain 2000;gone 0 0;gone 1 1999;").due(0, "isThere", 0, 0).due(1, "isThere", 0, 2);
        run.noSuch("isThere", 0, -1).noSuch("isThere", 0, 3).noSuch("isThere", 0, LEAST).noSuch("isThere", 0, MOST);
        run.due(1, "isThere", 1, 0).due(0, "isThere", 1, 1999).noSuch("isThere", 1, 2000).noSuch("isThere", 1, 2015);
        run.noSuch("isThere", 2, 0).noSuch("isThere", -1, 0).noSuch("isThere", MOST, 0).noSuch("isThere", LEAST, MOST);
    }

    private static void number() {
        Run.about("THE NUMBER on a PAGE (0: none). NoSuchElementException: also no such PAGE.");
        Run run = Run.of("roman 1 3;told 2 by 3-page;told 2000 by page;gone 0 0;").due(0, "number", 0, 1).due(1, "number", 0, 2);
        run.due(5, "number", 0, 6).due(1, "number", 1, 2).due(0, "number", 1, 3).due(4000, "number", 2, 4000);
        run.noSuch("number", 0, 0).noSuch("number", 0, 7).noSuch("number", 1, 5).noSuch("number", 2, 4001);
        run.noSuch("number", 0, -1).noSuch("number", 0, MOST).noSuch("number", 0, LEAST).noSuch("number", 3, 1);
        run.noSuch("number", -1, 1).noSuch("number", MOST, 0).noSuch("number", LEAST, 1);
    }

    private static void page() {
        Run.about("The (least) PAGE that bears a NUMBER; NONE: none, or it is below 1.");
        Run run = Run.of("plain 3;roman 2 3;odd 3;even 3;skip 3 3;told 4 by page/2*2;gone 0 0;");
        run.due(1, "page", 0, 1).due(6, "page", 0, 6).due(-1, "page", 0, 7).due(-1, "page", 0, 0).due(-1, "page", 0, -1);
        run.due(3, "page", 1, 1).due(6, "page", 1, 4).due(-1, "page", 1, 5).due(-1, "page", 1, 0);
        run.due(1, "page", 2, 1).due(6, "page", 2, 11).due(-1, "page", 2, 13).due(-1, "page", 2, 2).due(-1, "page", 2, -1);
        run.due(1, "page", 3, 2).due(6, "page", 3, 12).due(-1, "page", 3, 14).due(-1, "page", 3, 1).due(-1, "page", 3, 0);
        run.due(2, "page", 4, 2).due(-1, "page", 4, 3).due(3, "page", 4, 4).due(6, "page", 4, 7).due(-1, "page", 4, 8);
        // Of a told one two pages can bear a number, and pages that bear none aren't found by 0.
        run.due(2, "page", 5, 2).due(4, "page", 5, 4).due(8, "page", 5, 8).due(-1, "page", 5, 0).due(-1, "page", 5, 1);
        for (int book = 0; book < 6; book++) {
            run.due(-1, "page", book, LEAST).due(-1, "page", book, MOST).due(-1, "page", book, MOST - 1);
        }
        run.noSuch("page", 6, 1).noSuch("page", -1, 1).noSuch("page", 6, 0).noSuch("page", LEAST, -1);
    }

    private static void sum() {
        Run.about("THE SUM of a BOOK: NUMBERS on PAGES of all LEAVES that are not GONE, together.");
        Run run = Run.of("plain 1;plain 2000;told 2000 by 9999*10+9;roman 99 2;gone 0 0;").due(0, "sum", 0).due(8002000, "sum", 1);
        run.due(4000L * 99999, "sum", 2).due(0, "sum", 3).due(1, "tear", 1, 1999).due(8002000 - 7999, "sum", 1);
        run.noSuch("sum", 4).noSuch("sum", -1).noSuch("sum", MOST).noSuch("sum", LEAST);
    }

    private static void figures() {
        Run.about("FIGURES: how often a figure is printed on these (10: all figures).");
        Run run = Run.of("plain 50;roman 2 3;told 1 by 9999*10+9;skip 9 50;gone 0 49;");
        // 1 to 98; 0 stands in 10, 20 .. 90.
        run.due(9, "figures", 0, 0).due(20, "figures", 0, 1).due(20, "figures", 0, 8).due(18, "figures", 0, 9);
        run.due(9 + 2 * 89, "figures", 0, 10).due(0, "figures", 1, 0).due(4, "figures", 1, 10).due(10, "figures", 2, 9);
        run.due(10, "figures", 2, 10).due(0, "figures", 3, 9);
        Run.about("FIGURES. NoSuchElementException: also no such figure (0 to 10).");
        run.noSuch("figures", 0, -1).noSuch("figures", 0, 11).noSuch("figures", 0, LEAST).noSuch("figures", 0, MOST);
        run.noSuch("figures", 4, 0).noSuch("figures", -1, 0).noSuch("figures", MOST, 11).noSuch("figures", LEAST, 10);
    }

    private static void index() {
        Run.about("how many LEAVES more it must have had, at least, to have a PAGE that bears it (0: it has");
        Run run = Run.of("plain 3;roman 99 3;odd 3;even 3;skip 1 3;plain 2000;gone 0 0 1 2;");
        run.due(0, "index", 0, 1).due(0, "index", 0, 6).due(1, "index", 0, 7).due(1, "index", 0, 8).due(2, "index", 0, 9);
        run.due(47, "index", 1, 1).due(48, "index", 1, 2).due(48, "index", 1, 3).due(0, "index", 2, 11).due(1, "index", 2, 13);
        run.due(1, "index", 2, 15).due(2, "index", 2, 17).due(0, "index", 3, 12).due(1, "index", 3, 14).due(2, "index", 3, 18);
        run.due(0, "index", 4, 2).due(0, "index", 4, 7).due(1, "index", 4, 8).due(1, "index", 4, 9).due(2, "index", 4, 20);
        run.due(0, "index", 5, 4000).due(1, "index", 5, 4001).due(1, "index", 5, 4002).due(2, "index", 5, 4003);
        run.due((1 << 30) - 2000, "index", 5, MOST).due((1 << 30) - 1 - 2000, "index", 5, MOST - 1);
        run.noSuch("index", 6, 1).noSuch("index", -1, 1).noSuch("index", MOST, 0).noSuch("index", LEAST, -1);
        // What is torn has its pages all the same.
        run.due(1, "tear", 5, 1999).due(0, "index", 5, 4000);
    }

    private static void indexOfSewnBooks() {
        Run.about("a sewn one's LEAVES being even then, too");
        Run run = Run.of("sewn 2;sewn 2000;").due(0, "index", 0, 4).due(2, "index", 0, 5).due(2, "index", 0, 6);
        run.due(2, "index", 0, 7).due(2, "index", 0, 8).due(4, "index", 0, 9).due(4, "index", 0, 12).due(6, "index", 0, 13);
        run.due(0, "index", 1, 4000).due(2, "index", 1, 4001).due(2, "index", 1, 4004).due(4, "index", 1, 4005);
        run.due((1 << 30) - 2000, "index", 1, MOST).due(-1, "index", 1, 0);
    }

    private static void indexOrNone() {
        Run.about("AN INDEX; NONE: none.");
        Run run = Run.of("roman 99 1;skip 9 1;told 1 by page-1;");
        run.due((MOST + 99L + 1) / 2 - 1, "index", 0, MOST).due(49, "index", 0, 1).due(-1, "index", 0, 0);
        run.due(-1, "index", 1, 2147483639).due(-1, "index", 1, 9).due(4, "index", 1, 10).due(0, "index", 1, 2);
        run.due(0, "index", 2, 1).due(-1, "index", 2, 2).due(-1, "index", 2, 0);
    }

    private static void mostCalls() {
        Run.about("An object is used for at most 512 calls after it has been made");
        Run run = Run.of("plain 9;");
        // Three calls have been made so far: one feed, one shelf, and this one's count.
        run.due(0, "count", 2);
        for (int call = 4; call <= 512; call++) {
            if (call % 2 == 0) {
                run.due(1, "tear", 0, call % 9);
            } else {
                run.due(1, "put");
            }
        }
    }

    private static void indexOfNone() {
        Run.about("none, if no PAGE of such a BOOK ever bears it (of a told one: no PAGE of its own).");
        Run run = Run.of("plain 3;roman 3 3;odd 3;even 3;skip 3 3;told 3 by page*3;");
        for (int book = 0; book < 6; book++) {
            run.due(-1, "index", book, 0).due(-1, "index", book, -1).due(-1, "index", book, LEAST);
        }
        run.due(-1, "index", 2, 2).due(-1, "index", 2, MOST - 1).due(536870912 - 3, "index", 2, MOST).due(-1, "index", 3, 1);
        run.due(-1, "index", 3, MOST).due(536870912 - 3, "index", 3, MOST - 1).due(-1, "index", 4, 3).due(-1, "index", 4, 30);
        run.due(-1, "index", 4, 13).due(-1, "index", 4, 1300000000).due(0, "index", 5, 3).due(0, "index", 5, 18);
        run.due(-1, "index", 5, 21).due(-1, "index", 5, 1).due(-1, "index", 5, 99999).due(-1, "index", 5, MOST);
    }
}
