/** Promises 34 to 36: leaves that stick, and what is read aloud. */
public final class StickReadTest {
    public static void main(String[] args) {
        sticking();
        mostStuck();
        tornStaysStuck();
        reading();
        buzzing();
        wrongInputs();
        Run.end("StickReadTest");
    }

    private static void sticking() {
        Run.about("They are LOOSENED, the last one first.");
        Run run = Run.of("plain 5;plain 1;plain 5;gone 0 3;").due(-1, "loosen");
        run.due(1, "stick", 0, 0).due(2, "stick", 0, 1).due(-1, "stick", 0, 0).due(-1, "stick", 0, 1).due(2, "count", 8);
        // The leaf behind is gone, the leaf is gone, it is the last leaf.
        run.due(-1, "stick", 0, 2).due(-1, "stick", 0, 3).due(-1, "stick", 0, 4).due(-1, "stick", 1, 0).due(6, "count", 8);
        run.due(3, "stick", 2, 0).due(3, "count", 9).due(2, "loosen").due(1, "loosen").due(-1, "stick", 0, 0);
        run.due(2, "stick", 0, 1).due(1, "loosen").due(0, "loosen").due(-1, "loosen").due(7, "count", 8);
        for (int book : new int[] {-1, 3, Integer.MAX_VALUE, Integer.MIN_VALUE}) {
            run.noSuch("stick", book, 0);
        }
        for (int leaf : new int[] {-1, 5, Integer.MAX_VALUE, Integer.MIN_VALUE}) {
            run.noSuch("stick", 0, leaf);
        }
        run.due(7, "count", 8).due(0, "count", 9);
    }

    private static void mostStuck() {
        Run run = Run.of("plain 40;even 40;");
        for (int i = 0; i < 20; i++) {
            run.due(i + 1, "stick", i % 2, i / 2 * 3);
        }
        run.due(-1, "stick", 0, 38).due(20, "count", 9).due(1, "count", 8).noSuch("stick", 0, 40).due(19, "loosen");
        run.due(20, "stick", 0, 38).due(-1, "stick", 1, 0).due(2, "count", 8);
    }

    private static void tornStaysStuck() {
        Run run = Run.of("plain 5;").due(1, "stick", 0, 1).due(55 - 4 - 5, "read", 0, 1, 10, 1, 0, false);
        // A leaf that is torn takes its own pages with it; the other's page stays hidden.
        run.due(1, "tear", 0, 1).due(55 - 3 - 4 - 5, "read", 0, 1, 10, 1, 0, false).due(1, "count", 9);
        run.due(-1, "stick", 0, 1).due(-1, "stick", 0, 0).due(2, "stick", 0, 2).due(30, "read", 0, 1, 10, 1, 0, false);
        run.due(1, "put").due(55 - 4 - 5 - 6 - 7, "read", 0, 1, 10, 1, 0, false).due(-1, "stick", 0, 1);
        run.due(3, "stick", 0, 0).due(28, "read", 0, 1, 10, 1, 0, false).due(2, "loosen").due(1, "loosen");
        run.due(46, "read", 0, 1, 10, 1, 0, false).due(8, "read", 0, 1, 10, 1, 0, true);
        // It doesn't bar anything: both can be torn and put back, and the sum counts hidden pages.
        run.due(1, "tear", 0, 2).due(2, "tear", 0, 1).due(55 - 18, "sum", 0).due(1, "put").due(1, "put").due(55, "sum", 0);
    }

    private static void reading() {
        Run.about("READ ALOUD: from a PAGE on each so manieth (1 to 100) up to another PAGE, those that are not on a LEAF that is GONE, "
                + "and can be seen, and bear a NUMBER");
        String text = "plain 50;roman 3 4;odd 20;told 3 by page-2;gone 0 4 5;gone 2 0;";
        for (int each = 1; each <= 100; each += each < 10 ? 1 : 9) {
            Run run = Run.of(text).due(1, "stick", 0, 10);
            for (int from = 1; from <= 100; from += 9) {
                compare(run, from, Math.min(100, from + 37), each);
                compare(run, from, from, each);
                compare(run, from, 100, each);
            }
        }
        Run run = Run.of(text).due(0, "book", 1, 2);
        run.due(15, "read", 1, 1, 8, 1, 0, false).due(5, "read", 1, 1, 8, 1, 0, true).due(0, "read", 1, 1, 3, 1, 0, true);
        run.due(2, "read", 1, 2, 5, 3, 0, false).due(5, "read", 2, 3, 3, 1, 0, false).due(0, "read", 2, 1, 2, 1, 0, true);
        run.due(10, "read", 3, 1, 6, 1, 0, false).due(4, "read", 3, 1, 6, 1, 0, true);
    }

    private static void compare(Run run, int from, int to, int each) {
        long together = 0;
        int many = 0;
        for (int page = from; page <= to; page += each) {
            boolean gone = page >= 9 && page <= 12;
            boolean hidden = page == 22 || page == 23;
            together += gone || hidden ? 0 : page;
            many += gone || hidden ? 0 : 1;
        }
        run.due(together, "read", 0, from, to, each, 0, false).due(many, "read", 0, from, to, each, 0, true);
    }

    private static void buzzing() {
        Run.about("unless it is a BUZZ (of a BUZZ number 2 to 9: it divides it, or is written in it as a figure; with 0 none is): "
                + "their NUMBERS together, and how many.");
        Run run = Run.of("plain 200;even 100;");
        for (int buzz = 2; buzz <= 9; buzz++) {
            int plain = 0;
            int even = 0;
            for (int number = 1; number <= 400; number++) {
                boolean is = number % buzz == 0 || Integer.toString(number).indexOf('0' + buzz) >= 0;
                plain += is ? 0 : number;
                even += is || number % 2 == 1 ? 0 : 1;
            }
            run.due(plain, "read", 0, 1, 400, 1, buzz, false).due(even, "read", 1, 1, 200, 1, buzz, true);
        }
        run.due(0, "read", 1, 1, 200, 1, 2, true).due(0, "read", 0, 27, 28, 1, 7, true).due(26, "read", 0, 26, 27, 1, 7, false);
    }

    private static void wrongInputs() {
        Run run = Run.of("plain 5;plain 2;");
        for (int book : new int[] {-1, 2, Integer.MAX_VALUE, Integer.MIN_VALUE}) {
            run.noSuch("read", book, 1, 2, 1, 0, true).noSuch("read", book, 2, 1, 0, 1, true);
        }
        for (int page : new int[] {0, -1, 11, Integer.MAX_VALUE, Integer.MIN_VALUE}) {
            run.noSuch("read", 0, page, 5, 1, 0, true).noSuch("read", 0, 5, page, 1, 0, false);
            run.noSuch("read", 0, page, 5, 0, 1, true).noSuch("read", 0, 5, page, 101, 10, false);
        }
        run.noSuch("read", 1, 1, 5, 1, 0, true).illegal("read", 0, 5, 4, 1, 0, true).due(5, "read", 0, 5, 5, 1, 0, false);
        for (int each : new int[] {0, -1, 101, Integer.MAX_VALUE, Integer.MIN_VALUE}) {
            run.illegal("read", 0, 1, 5, each, 0, true);
        }
        for (int buzz : new int[] {1, -1, 10, Integer.MAX_VALUE, Integer.MIN_VALUE}) {
            run.illegal("read", 0, 1, 5, 1, buzz, true);
        }
        run.due(1, "read", 0, 1, 10, 100, 9, false).due(1, "read", 0, 1, 10, 100, 2, true);
    }
}
