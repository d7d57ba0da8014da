import java.util.Random;

/** Promises 28 and 29: books made whole of copies, and leaves that must be bought. */
public final class CopiesTest {
    public static void main(String[] args) {
        named();
        Run.about("MADE WHOLE: of COPIES of a BOOK (and that BOOK itself, its LEAVES that are GONE missing) the fewest by which all LEAVES "
                + "are there, the BOOK itself always being one of them; of as few the least as bits of COPIES; none, if it can't be. "
                + "BOUGHT: LEAVES that none of all these has.");
        Random random = new Random(5);
        for (int round = 0; round < 300; round++) {
            drawn(random);
        }
        Run.end("CopiesTest");
    }

    private static void named() {
        Run.of("plain 3;").due(0, "whole", 0).due(0, "bought", 0).noSuch("whole", 1).noSuch("bought", 1);
        Run.of("plain 3;").noSuch("whole", -1).noSuch("bought", -1).noSuch("whole", Integer.MAX_VALUE);
        Run.of("plain 3;gone 0 1;").due(-1, "whole", 0).due(1, "bought", 0).noSuch("bought", Integer.MIN_VALUE);
        // The book itself is always one of them, so a whole copy is one more.
        Run.of("plain 3;copy 0;").due(0, "whole", 0).due(1, "tear", 0, 2).due(1, "whole", 0).due(0, "bought", 0);
        // Copies of another book don't count, and bits are of all copies.
        Run.of("plain 3;plain 3;copy 1;copy 0;gone 0 1;gone 1 1;").due(2, "whole", 0).due(1, "whole", 1);
        Run.of("plain 3;plain 3;copy 1;gone 0 1;").due(-1, "whole", 0).due(1, "bought", 0).due(0, "bought", 1);
        // Fewest first, then the least bits.
        Run.of("plain 3;gone 0 0 1;copy 0 0;copy 0 1;copy 0;").due(4, "whole", 0);
        Run.of("plain 3;gone 0 0 1;copy 0 0;copy 0 1;copy 0 0;").due(3, "whole", 0);
        Run.of("plain 4;gone 0 0 1;copy 0 0 1;copy 0;copy 0;").due(2, "whole", 0);
        Run run = Run.of("plain 9;gone 0 0 1 2;copy 0 0 1 3;copy 0 1 2;copy 0 2;copy 0 8;").due(8, "whole", 0);
        run.due(4, "tear", 0, 8).due(5, "whole", 0).due(5, "tear", 0, 3).due(5, "whole", 0).due(1, "put").due(1, "put");
        run.due(8, "whole", 0);
        Run.of("plain 2;gone 0 0 1;copy 0 0;copy 0 0;").due(-1, "whole", 0).due(1, "bought", 0);
    }

    private static void drawn(Random random) {
        boolean[][] missing = new boolean[8][10];
        int[] book = new int[8];
        StringBuilder text = new StringBuilder("plain 10;even 10;");
        int copies = random.nextInt(9);
        for (int copy = 0; copy < copies; copy++) {
            book[copy] = random.nextInt(4) == 0 ? 1 : 0;
            text.append("copy ").append(book[copy]);
            for (int leaf = 0; leaf < 10; leaf++) {
                missing[copy][leaf] = random.nextInt(3) != 0;
                text.append(missing[copy][leaf] ? " " + leaf : "");
            }
            text.append(";");
        }
        Run run = Run.of(text.toString());
        boolean[] gone = new boolean[10];
        for (int i = 0; i < 9; i++) {
            check(run, gone, missing, book, copies);
            int leaf = random.nextInt(10);
            run.answer("tear", 0, leaf);
            gone[leaf] = true;
        }
    }

    private static void check(Run run, boolean[] gone, boolean[][] missing, int[] book, int copies) {
        int best = -1;
        for (int chosen = (1 << copies) - 1; chosen >= 0; chosen--) {
            boolean fewer = best < 0 || Integer.bitCount(chosen) <= Integer.bitCount(best);
            if (fewer && lacking(chosen, gone, missing, book) == 0) {
                best = chosen;
            }
        }
        run.due(best, "whole", 0).due(lacking((1 << copies) - 1, gone, missing, book), "bought", 0);
    }

    private static int lacking(int chosen, boolean[] gone, boolean[][] missing, int[] book) {
        int lacking = 0;
        for (int leaf = 0; leaf < 10; leaf++) {
            boolean has = !gone[leaf];
            for (int copy = 0; copy < 8; copy++) {
                has |= (chosen >> copy & 1) != 0 && book[copy] == 0 && !missing[copy][leaf];
            }
            lacking += has ? 0 : 1;
        }
        return lacking;
    }
}
