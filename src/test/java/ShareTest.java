import java.util.ArrayList;
import java.util.List;
import java.util.Random;

/** Promises 37 to 40: leaves shared among children, and the fewest leaves to be torn for a sum. */
public final class ShareTest {
    private static final long MOST = 1000000000000000000L;

    public static void main(String[] args) {
        sharedNamed();
        leastNamed();
        Random random = new Random(11);
        for (int round = 0; round < 60; round++) {
            drawn(random);
        }
        mostLeaves();
        Run.end("ShareTest");
    }

    private static void sharedNamed() {
        Run run = Run.of("plain 4;plain 11;odd 10;gone 0 1;").noSuch("child", 0);
        // Leaves 0, 2, 3 are worth 3, 11, 15: 14 and 15, or 3, 11 and 15.
        run.due(1, "shares", 0, 2).due(0, "child", 0).due(0, "child", 1).due(1, "child", 2).noSuch("child", 3);
        run.noSuch("child", -1).noSuch("child", Integer.MAX_VALUE).noSuch("child", Integer.MIN_VALUE);
        run.due(12, "shares", 0, 3).due(0, "child", 0).due(1, "child", 1).due(2, "child", 2);
        // With more children than leaves one has none, and so it doesn't matter that another has none.
        run.due(15, "shares", 0, 4).due(0, "child", 1).due(1, "child", 2).noSuch("child", 3);
        // What is spent, or isn't asked rightly, leaves what is kept.
        run.due(-2, "shares", 1, 2).due(1, "child", 2).illegal("shares", 0, 1).illegal("shares", 0, 5).due(1, "child", 2);
        run.illegal("shares", 0, 0).illegal("shares", 0, -1).illegal("shares", 1, Integer.MAX_VALUE).noSuch("shares", 3, 2);
        run.noSuch("shares", 3, 9).noSuch("shares", -1, 2).noSuch("shares", Integer.MAX_VALUE, 2).due(0, "child", 1);
        run.due(1, "tear", 1, 4).due(0, "shares", 1, 2).due(1, "put").due(-2, "shares", 1, 2).noSuch("child", 10);
        // Tearing and images leave it, too; and so does a text with a fault.
        String before = run.answer("child", 9);
        run.answer("image");
        run.due(2, "tear", 0, 0).due(1, "restore").text(1, "!");
        Run.isTrue("what is shared stays", run.answer("child", 9).equals(before));
        run.text(0, "plain 1;gone 0 0;told 2 by 0;").noSuch("child", 0).due(0, "shares", 0, 2).noSuch("child", 0);
        run.due(0, "shares", 1, 4).due(0, "child", 0).due(0, "child", 1).noSuch("child", 2);
    }

    private static void leastNamed() {
        Run run = Run.of("plain 4;plain 31;even 30;plain 10;gone 0 1;").noSuch("torn", 0);
        // 29 is the sum; leaves 0, 2, 3 are worth 3, 11, 15.
        run.due(0, "least", 0, 29).noSuch("torn", 0).due(1, "least", 0, 26).due(0, "torn", 0).noSuch("torn", 1);
        run.due(2, "least", 0, 11).due(0, "torn", 0).due(3, "torn", 1).noSuch("torn", 2).noSuch("torn", -1);
        run.due(3, "least", 0, 0).due(0, "torn", 0).due(2, "torn", 1).due(3, "torn", 2);
        run.due(-1, "least", 0, 28).due(-1, "least", 0, 30).due(-1, "least", 0, MOST).due(-2, "least", 1, 5);
        run.due(3, "torn", 2).illegal("least", 0, -1).illegal("least", 0, MOST + 1).illegal("least", 1, Long.MIN_VALUE);
        run.illegal("least", 0, Long.MAX_VALUE).noSuch("least", 4, 5).noSuch("least", 4, -5).noSuch("least", -1, 5);
        run.due(2, "torn", 1).noSuch("torn", Integer.MAX_VALUE).noSuch("torn", Integer.MIN_VALUE);
        run.due(-2, "least", 1, 62 * 63 / 2).due(1, "tear", 1, 30).due(0, "least", 1, 60 * 61 / 2).noSuch("torn", 0);
        // 7 + 11 and 3 + 15 are 18: the first row; of one leaf, 19; of four, 3 + 7 + 11 + 15.
        run.due(2, "least", 3, 210 - 18).due(0, "torn", 0).due(3, "torn", 1).due(1, "least", 3, 191).due(4, "torn", 0);
        run.due(4, "least", 3, 210 - 39 - 35 - 31 - 27).due(6, "torn", 0).due(9, "torn", 3).due(-1, "least", 3, 0);
        run.answer("image");
        run.due(1, "tear", 3, 0).due(1, "restore").text(1, "!").due(6, "torn", 0).text(0, "").noSuch("torn", 0);
        // A leaf that bears nothing is never torn; nothing is worth nothing.
        run.text(0, "told 3 by leaf*side;plain 1;gone 1 0;").due(0, "least", 0, 3).due(1, "least", 0, 1).due(2, "torn", 0);
        run.due(2, "least", 0, 0).due(1, "torn", 0).due(2, "torn", 1).due(0, "least", 1, 0).due(-1, "least", 1, 1);
    }

    private static void drawn(Random random) {
        int leaves = 1 + random.nextInt(8);
        int a = random.nextInt(60);
        int b = 1 + random.nextInt(25);
        String text = "told " + leaves + " by page*" + a + "-page/3*" + b + "+(page=4)*90;";
        List<Integer> worth = new ArrayList<>();
        for (int leaf = 0; leaf < leaves; leaf++) {
            worth.add(number(2 * leaf + 1, a, b) + number(2 * leaf + 2, a, b));
        }
        if (leaves > 2) {
            worth.set(1, null);
        }
        Run run = withoutSecond(text, leaves);
        for (int children = 2; children <= 4; children++) {
            compareShares(run, worth, children);
        }
        int sum = 0;
        for (Integer one : worth) {
            sum += one == null ? 0 : one;
        }
        for (int s = 0; s <= sum + 2; s += 1 + random.nextInt(7)) {
            compareLeast(withoutSecond(text, leaves), worth, sum - s, s);
        }
        for (int out = 0; out < 1 << leaves; out += 1 + random.nextInt(3)) {
            compareLeast(withoutSecond(text, leaves), worth, worthOf(worth, out), sum - worthOf(worth, out));
        }
    }

    private static Run withoutSecond(String text, int leaves) {
        Run run = Run.of(text);
        return leaves > 2 ? run.due(1, "tear", 0, 1) : run;
    }

    private static int number(int page, int a, int b) {
        int given = page * a - page / 3 * b + (page == 4 ? 90 : 0);
        return Math.max(given, 0);
    }

    private static int worthOf(List<Integer> worth, int out) {
        int together = 0;
        for (int leaf = 0; leaf < worth.size(); leaf++) {
            together += worth.get(leaf) != null && (out >> leaf & 1) != 0 ? worth.get(leaf) : 0;
        }
        return together;
    }

    /** All rows of children, the first first. */
    private static void compareShares(Run run, List<Integer> worth, int children) {
        Run.about("SHARED among 2 to 4 CHILDREN are all LEAVES of a BOOK that are there (at most 10, else SPENT): so that the greatest sum "
                + "of NUMBERS that one has, less the least, is least; of like ways the first as a row of CHILDREN by LEAVES.");
        List<Integer> there = worth.stream().filter(one -> one != null).toList();
        int rows = 1;
        for (int i = 0; i < there.size(); i++) {
            rows *= children;
        }
        int best = Integer.MAX_VALUE;
        int[] bestRow = null;
        for (int code = 0; code < rows; code++) {
            int[] row = new int[there.size()];
            int[] hand = new int[children];
            int rest = code;
            for (int i = there.size() - 1; i >= 0; i--) {
                row[i] = rest % children;
                rest /= children;
                hand[row[i]] += there.get(i);
            }
            int most = java.util.Arrays.stream(hand).max().getAsInt();
            int least = java.util.Arrays.stream(hand).min().getAsInt();
            if (most - least < best) {
                best = most - least;
                bestRow = row;
            }
        }
        run.due(best, "shares", 0, children);
        for (int i = 0; i < there.size(); i++) {
            run.due(bestRow[i], "child", i);
        }
        run.noSuch("child", there.size());
    }

    private static void compareLeast(Run run, List<Integer> worth, int out, int s) {
        Run.about("LEAST TORN: the fewest LEAVES (at most 4) to be TORN out of a BOOK, of those there (at most 30, else SPENT), "
                + "so that THE SUM is S; of as few the first as a row of rising LEAVES; none, if none do.");
        List<Integer> best = null;
        for (int set = 0; set < 1 << worth.size(); set++) {
            List<Integer> row = rowOf(worth, set);
            if (row != null && row.size() <= 4 && worthOf(worth, set) == out && isBefore(row, best)) {
                best = row;
            }
        }
        run.due(best == null ? -1 : best.size(), "least", 0, s);
        for (int i = 0; best != null && i < best.size(); i++) {
            run.due(best.get(i), "torn", i);
        }
    }

    private static List<Integer> rowOf(List<Integer> worth, int set) {
        List<Integer> row = new ArrayList<>();
        for (int leaf = 0; leaf < worth.size(); leaf++) {
            if ((set >> leaf & 1) != 0) {
                if (worth.get(leaf) == null) {
                    return null;
                }
                row.add(leaf);
            }
        }
        return row;
    }

    private static boolean isBefore(List<Integer> row, List<Integer> best) {
        if (best == null || row.size() != best.size()) {
            return best == null || row.size() < best.size();
        }
        for (int i = 0; i < row.size(); i++) {
            if (!row.get(i).equals(best.get(i))) {
                return row.get(i) < best.get(i);
            }
        }
        return false;
    }

    private static void mostLeaves() {
        Run run = Run.of("told 10 by page*page;told 30 by page*page;told 10 by 9999*10+page;");
        List<Integer> worth = new ArrayList<>();
        for (int leaf = 0; leaf < 10; leaf++) {
            worth.add((int) pair(leaf));
        }
        for (int children = 2; children <= 4; children++) {
            compareShares(run, worth, children);
        }
        long sum = Long.parseLong(run.answer("sum", 1));
        run.due(4, "least", 1, sum - pair(26) - pair(27) - pair(28) - pair(29)).due(26, "torn", 0).due(29, "torn", 3);
        run.due(-1, "least", 1, sum - pair(25) - pair(26) - pair(27) - pair(28) - pair(29)).due(26, "torn", 0);
        // Four leaves are worth 199983 to 199995, one 99999, the others bear nothing.
        run.due(199983 + 99999 - 199987, "shares", 2, 4);
    }

    private static long pair(long leaf) {
        return (2 * leaf + 1) * (2 * leaf + 1) + (2 * leaf + 2) * (2 * leaf + 2);
    }
}
