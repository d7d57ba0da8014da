/** Promises 12 to 14, 31, 41 and 42: leaves and sheets torn, put back, torn by a seed; the image. */
public final class TearTest {
    private static final int[] NO_BOOKS = {-1, 5, 6, Integer.MAX_VALUE, Integer.MIN_VALUE};

    public static void main(String[] args) {
        leaves();
        sheets();
        puttingBack();
        mostGone();
        allGone();
        seeds();
        seedsRefused();
        images();
        imageOfAll();
        Run.end("TearTest");
    }

    private static void leaves() {
        Run run = Run.of("plain 3;odd 2;gone 1 0;");
        run.due(1, "tear", 0, 1).due(-1, "tear", 0, 1).due(2, "tear", 0, 0).due(3, "tear", 0, 2).due(-1, "tear", 0, 2);
        run.due(-1, "tear", 1, 0).due(2, "tear", 1, 1).due(3, "count", 6).due(4, "count", 2).due(0, "sum", 0);
        for (int book : NO_BOOKS) {
            run.noSuch("tear", book, 0).noSuch("sheet", book, 0).noSuch("seed", book, 0, 1).noSuch("seed", book, 0, 61);
        }
        for (int leaf : new int[] {-1, 3, Integer.MAX_VALUE, Integer.MIN_VALUE}) {
            run.noSuch("tear", 0, leaf);
        }
        run.noSuch("tear", 1, 2).due(3, "count", 6).due(4, "count", 2);
    }

    private static void sheets() {
        Run run = Run.of("sewn 6;plain 5;plain 1;even 4;");
        run.due(2, "sheet", 0, 1).due(0, "isThere", 0, 1).due(0, "isThere", 0, 4).due(1, "isThere", 0, 0);
        run.due(1, "isThere", 0, 5).due(2, "book", 0, 2).due(4, "sheet", 0, 0).due(6, "sheet", 0, 2).due(0, "sum", 0);
        run.due(-1, "sheet", 0, 2).due(1, "count", 6).due(3, "count", 2);
        for (int sheet : new int[] {-1, 3, Integer.MAX_VALUE, Integer.MIN_VALUE}) {
            run.noSuch("sheet", 0, sheet);
        }
        // An odd number of leaves has sheets that can't be torn.
        run.due(-1, "sheet", 1, 0).due(-1, "sheet", 1, 1).noSuch("sheet", 1, 2).noSuch("sheet", 2, 0).due(3, "count", 6);
        run.due(1, "tear", 3, 2).due(-1, "sheet", 3, 1).due(3, "sheet", 3, 0).due(4, "count", 6).due(5, "count", 2);
        run.due(2, "put").due(1, "put").due(2, "sheet", 3, 1).due(1, "isThere", 3, 0).due(0, "isThere", 3, 1);
    }

    private static void puttingBack() {
        Run run = Run.of("plain 4;even 4;gone 0 3;");
        run.due(2, "tear", 0, 0).due(2, "sheet", 1, 0).due(3, "tear", 0, 2).due(3, "count", 2);
        run.due(1, "put").due(1, "isThere", 0, 2).due(0, "isThere", 0, 0).due(0, "isThere", 1, 0).due(2, "count", 2);
        run.due(2, "put").due(1, "isThere", 1, 0).due(1, "isThere", 1, 3).due(0, "isThere", 0, 0).due(1, "count", 2);
        run.due(1, "put").due(1, "isThere", 0, 0).due(-1, "put").due(0, "isThere", 0, 3).due(1, "book", 0, 2);
        run.due(0, "count", 6).due(2, "tear", 0, 0).due(1, "put").due(-1, "put");
    }

    private static void mostGone() {
        Run run = Run.of("plain 130;plain 130;gone 0 129;");
        for (int leaf = 0; leaf < 59; leaf++) {
            run.due(leaf + 2, "tear", 0, leaf);
        }
        run.due(-1, "tear", 0, 59).due(-1, "sheet", 0, 60).due(-1, "seed", 0, 1, 1).due(60, "seed", 0, 1, 0);
        run.due(3, "count", 6).due(1, "tear", 1, 0).due(1, "put").due(1, "put").due(59, "book", 0, 2);
        run.due(-1, "sheet", 0, 60).due(-1, "seed", 0, 1, 2).due(1, "put").due(60, "sheet", 0, 60).due(5, "count", 6);
        run.due(58, "count", 2).due(2, "put").due(58, "book", 0, 2);
    }

    private static void allGone() {
        Run run = Run.of("plain 60;odd 61;even 99;plain 60;skip 3 60;plain 1999;");
        for (int book = 0; book < 6; book++) {
            run.due(60, "seed", book, book, 60).due(-1, "seed", book, book, 1);
        }
        run.due(360, "count", 2).due(6, "count", 6).due(0, "sum", 0).due(0, "sum", 4);
        for (int left = 359; left >= 0; left--) {
            run.due(1, "put");
            if (left % 4 == 0) {
                run.due(left % 60, "book", left / 60, 2);
            }
        }
        run.due(-1, "put").due(60 * 121, "sum", 0).due(122 * 122, "sum", 1).due(1999 * 3999, "sum", 5);
    }

    private static void seeds() {
        Run.about("BY A SEED k LEAVES are TORN out of a BOOK, one by one: of all that are there the one by a DRAW of how many these are, "
                + "the first first");
        Run run = Run.of("plain 100;gone 0 0 50 99;");
        boolean[] gone = new boolean[100];
        gone[0] = true;
        gone[50] = true;
        gone[99] = true;
        int seed = -123456789;
        int drawn = seed;
        for (int i = 0; i < 40; i++) {
            drawn = drawn * 1103515245 + 12345;
            int wanted = (drawn >> 16 & 0x7fff) % (97 - i);
            for (int leaf = 0; leaf < 100; leaf++) {
                if (!gone[leaf] && wanted-- == 0) {
                    gone[leaf] = true;
                    break;
                }
            }
        }
        run.due(43, "seed", 0, seed, 40).due(40, "count", 2);
        for (int leaf = 0; leaf < 100; leaf++) {
            run.due(gone[leaf] ? 0 : 1, "isThere", 0, leaf);
        }
        run.due(1, "put").due(42, "book", 0, 2).due(39, "count", 2);
        // A seed of 1 draws 16838, then 5758 (as C's book has it).
        Run.of("plain 1000;").due(2, "seed", 0, 1, 2).due(0, "isThere", 0, 838).due(0, "isThere", 0, 5758 % 999);
    }

    private static void seedsRefused() {
        Run run = Run.of("plain 5;plain 2000;gone 0 2;");
        run.due(-1, "seed", 0, 7, 5).due(-1, "seed", 0, 7, 60).due(1, "seed", 0, 7, 0).due(5, "seed", 0, 7, 4);
        run.due(-1, "seed", 0, 7, 1).due(5, "seed", 0, 7, 0).due(3, "count", 6).due(4, "count", 2).due(0, "sum", 0);
        run.illegal("seed", 0, 7, 61).illegal("seed", 0, 7, -1).illegal("seed", 0, 7, Integer.MAX_VALUE);
        run.illegal("seed", 0, 7, Integer.MIN_VALUE).noSuch("seed", 2, 7, 61).noSuch("seed", -1, 7, -1);
        run.due(60, "seed", 1, Integer.MIN_VALUE, 60).due(3, "count", 6).due(64, "count", 2);
    }

    private static void images() {
        Run run = new Run().due(0, "restore");
        run.answer("image");
        run.due(1, "restore").due(1, "restore").text(0, "plain 9;").due(0, "restore");
        run.answer("image");
        run.due(1, "tear", 0, 3).due(1, "restore").due(0, "book", 0, 2).due(-1, "put").due(1, "tear", 0, 3);
        run.answer("image");
        run.due(2, "tear", 0, 4).due(1, "restore").due(1, "restore").due(1, "book", 0, 2).due(1, "put").due(-1, "put");
        run.text(2, "plain 0;").due(1, "restore").due(0, "isThere", 0, 3).due(1, "isThere", 0, 4).due(1, "count", 2);
    }

    private static void imageOfAll() {
        Run run = Run.of("plain 9;even 6;gone 0 8;");
        run.due(2, "tear", 0, 1).due(2, "sheet", 1, 2).due(1, "add", 1, 2).due(0, "add", 1, 7).due(1, "stick", 0, 4);
        run.due(2, "stick", 1, 0).due(-1, "tear", 0, 1).due(-1, "stick", 0, 0).due(0, "add", 0, 1).text(1, "!");
        run.due(26, "shares", 1, 3).answer("image");
        changeAll(run);
        run.due(1, "restore").due(2, "count", 2).due(2, "count", 3).due(0, "count", 4);
        run.due(1, "count", 5).due(1, "count", 6).due(1, "count", 7).due(1, "count", 8).due(2, "count", 9);
        run.due(1, "wrong").due(0, "isThere", 0, 1).due(1, "isThere", 0, 0).due(0, "isThere", 1, 3);
        run.due(9, "read", 0, 9, 10, 1, 0, false).due(0, "child", 0).due(-1, "stick", 1, 0);
        run.due(2, "put").due(1, "put").due(-1, "put").due(1, "loosen").due(2, "stick", 1, 0);
        // Sums of another book can't be added after the image's, until they are forgotten.
        run.due(1, "restore").due(0, "add", 0, 1).due(1, "add", 1, 12).due(1, "restore").due(2, "count", 3);
    }

    private static void changeAll(Run run) {
        run.due(2, "put").due(1, "put").due(2, "tear", 0, 0).due(3, "seed", 0, 5, 1).due(2, "count", 2);
        run.due(1, "wrong").due(1, "add", 0, 1).due(1, "loosen").due(0, "loosen").due(1, "stick", 1, 3);
        run.due(-1, "tear", 0, 0).due(-1, "stick", 1, 3).text(1, "!").due(0, "add", 1, 1).due(1, "tear", 1, 0);
    }
}
