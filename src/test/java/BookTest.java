/** Promises 5 to 11 and 30: what is told of a book, its pages' numbers, what they add up to, and indexes. */
public final class BookTest {
    private static final String[] KINDS = {"plain %d;", "sewn %d;", "roman 3 %d;", "odd %d;", "even %d;", "skip 1 %d;",
        "told %d by (page/3+1)*(not (page=5));"};

    public static void main(String[] args) {
        Run.about("`long sum(int book) throws NoSuchElementException`: THE SUM.");
        for (int kind = 0; kind < KINDS.length; kind++) {
            for (int leaves = 2; leaves <= 40; leaves += 6) {
                against(kind, leaves);
            }
        }
        Run.about("AN INDEX names a NUMBER in a BOOK: how many LEAVES more it must have had, at least, to have a PAGE that bears it "
                + "(0: it has; a sewn one's LEAVES being even then, too); none, if no PAGE of such a BOOK ever bears it "
                + "(of a told one: no PAGE of its own).");
        for (int kind = 0; kind < KINDS.length; kind++) {
            for (int leaves = 2; leaves <= 40; leaves += 6) {
                named(kind, leaves);
            }
        }
        greatBooks();
        notThere();
        whatIsGone();
        indexes();
        Run.end("BookTest");
    }

    private static int numberOn(int kind, int page) {
        switch (kind) {
            case 2: return Math.max(0, page - 3);
            case 3: return 2 * page - 1;
            case 4: return 2 * page;
            case 5: return skipping(page, 1);
            case 6: return page == 5 ? 0 : page / 3 + 1;
            default: return page;
        }
    }

    private static int skipping(int n, int figure) {
        int number = 0;
        for (int left = n; left > 0; left--) {
            number++;
            while (Integer.toString(number).indexOf('0' + figure) >= 0) {
                number++;
            }
        }
        return number;
    }

    private static void against(int kind, int leaves) {
        Run run = Run.of(String.format(KINDS[kind], leaves) + "gone 0 1 0;");
        long sum = 0;
        int[] figures = new int[11];
        for (int page = 1; page <= 2 * leaves; page++) {
            int number = numberOn(kind, page);
            run.due(number, "number", 0, page);
            if (page > 4) {
                sum += number;
                note(figures, number);
            }
        }
        run.due(sum, "sum", 0);
        for (int figure = 0; figure <= 10; figure++) {
            run.due(figures[figure], "figures", 0, figure);
        }
        for (int number = 1; number <= 130; number++) {
            run.due(pageOf(kind, number, 2 * leaves), "page", 0, number);
        }
        run.due(-1, "page", 0, 0).due(-1, "page", 0, -1).due(-1, "page", 0, Integer.MIN_VALUE);
    }

    private static void named(int kind, int leaves) {
        Run run = Run.of(String.format(KINDS[kind], leaves) + "gone 0 1 0;");
        for (int number = 1; number <= 130; number++) {
            int ever = pageOf(kind, number, kind == 6 ? 2 * leaves : 400);
            int needed = (ever + 1) / 2;
            needed += kind == 1 ? needed % 2 : 0;
            run.due(ever < 0 ? -1 : Math.max(0, needed - leaves), "index", 0, number);
        }
        run.due(-1, "index", 0, 0).due(-1, "index", 0, -7).due(-1, "index", 0, Integer.MIN_VALUE);
    }

    private static void note(int[] figures, int number) {
        if (number > 0) {
            for (char figure : Integer.toString(number).toCharArray()) {
                figures[figure - '0']++;
                figures[10]++;
            }
        }
    }

    private static int pageOf(int kind, int number, int pages) {
        for (int page = 1; page <= pages; page++) {
            if (numberOn(kind, page) == number) {
                return page;
            }
        }
        return -1;
    }

    private static void greatBooks() {
        Run run = Run.of("plain 2000;sewn 2000;roman 99 2000;odd 2000;even 2000;skip 9 2000;");
        run.due(4000, "number", 0, 4000).due(4000, "number", 1, 4000).due(3901, "number", 2, 4000);
        run.due(7999, "number", 3, 4000).due(8000, "number", 4, 4000).due(5434, "number", 5, 4000);
        run.due(8002000, "sum", 0).due(3901L * 3902 / 2, "sum", 2).due(16000000, "sum", 3).due(16004000, "sum", 4);
        run.due(0, "figures", 5, 9).due(0, "number", 2, 99).due(1, "number", 2, 100);
        run.due(3999, "page", 0, 3999).due(-1, "page", 0, 4001).due(4000, "page", 3, 7999).due(-1, "page", 3, 8001);
        Run told = Run.of("told 2000 by 9999*10+9;told 2000 by page*25;");
        told.due(4000L * 99999, "sum", 0).due(20000, "figures", 0, 9).due(20000, "figures", 0, 10);
        told.due(1, "page", 0, 99999).due(-1, "page", 0, 100000).due(3999, "page", 1, 99975).due(0, "number", 1, 4000);
        told.due(0, "index", 0, 99999).due(-1, "index", 1, 100000).due(0, "index", 1, 99975).due(-1, "index", 1, 26);
        told.due(25, "number", 1, 1).due(99975, "number", 1, 3999).due(99999, "number", 0, 4000).due(50, "number", 1, 2);
        told.noSuch("number", 0, 4001).noSuch("isThere", 1, 2000).due(1, "isThere", 1, 1999);
    }

    private static void notThere() {
        Run run = Run.of("plain 3;even 2;");
        for (int book : new int[] {-1, 2, 5, 6, 7, Integer.MAX_VALUE, Integer.MIN_VALUE}) {
            run.noSuch("book", book, 0).noSuch("isThere", book, 0).noSuch("number", book, 1).noSuch("page", book, 1);
            run.noSuch("sum", book).noSuch("figures", book, 1).noSuch("index", book, 1);
        }
        for (int leaf : new int[] {-1, 3, 4000, Integer.MAX_VALUE, Integer.MIN_VALUE}) {
            run.noSuch("isThere", 0, leaf);
        }
        for (int page : new int[] {0, -1, 7, 4001, Integer.MAX_VALUE, Integer.MIN_VALUE}) {
            run.noSuch("number", 0, page);
        }
        run.noSuch("figures", 0, -1).noSuch("figures", 0, 11).noSuch("number", 1, 5).noSuch("isThere", 1, 2);
    }

    private static void whatIsGone() {
        Run run = Run.of("plain 70;gone 0 33 32 31 64 69 0;");
        for (int leaf = 0; leaf < 70; leaf++) {
            boolean gone = leaf == 0 || leaf >= 31 && leaf <= 33 || leaf == 64 || leaf == 69;
            run.due(gone ? 0 : 1, "isThere", 0, leaf);
        }
        run.due(6, "book", 0, 2).due(140 * 141 / 2 - 3 - 127 - 131 - 135 - 259 - 279, "sum", 0);
        // What is gone has its numbers all the same.
        run.due(1, "number", 0, 1).due(1, "page", 0, 1).due(0, "index", 0, 1).due(140, "page", 0, 140);
        Run.of("plain 1;gone 0 0;").due(0, "sum", 0).due(0, "figures", 0, 10).due(1, "book", 0, 2);
    }

    private static void indexes() {
        Run run = Run.of("plain 3;sewn 4;roman 99 5;odd 7;even 9;skip 3 3;");
        int most = Integer.MAX_VALUE;
        run.due(1073741824 - 3, "index", 0, most).due(1073741824 - 4, "index", 1, most);
        run.due((2147483647L + 99 + 1) / 2 - 5, "index", 2, most).due(536870912 - 7, "index", 3, most);
        run.due(-1, "index", 4, most).due(536870912 - 9, "index", 4, most - 1).due(-1, "index", 5, most);
        run.due(0, "index", 1, 8).due(2, "index", 1, 9).due(2, "index", 1, 10).due(2, "index", 1, 12).due(4, "index", 1, 13);
        run.due(-1, "page", 0, most).due(-1, "page", 1, most).due(-1, "page", 2, most).due(-1, "page", 3, most);
        run.due(-1, "page", 4, most - 1).due(-1, "page", 5, 2000000000).due(-1, "index", 3, 4).due(-1, "index", 4, 5);
        // 2000000000 without a 3: one less of each figure above it, to the base of nine.
        run.due((2L * 387420489 + 1) / 2 - 3, "index", 5, 2000000000);
    }
}
