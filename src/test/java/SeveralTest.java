import java.util.ArrayList;
import java.util.List;

/** Promises 19, 20 and 32: several leaves of two pages are out. */
public final class SeveralTest {
    private static final long MOST = 1000000000000000000L;
    private static final int MOST_LEAVES = 12;

    public static void main(String[] args) {
        Run.about("A WAY of k LEAVES out of a BOOK of so many (1 to 30), as in 3: all WAYS as rows of rising LEAVES, the first row first.");
        for (int leaves = 1; leaves <= MOST_LEAVES; leaves++) {
            for (int k = 1; k <= leaves + 1; k++) {
                waysOf(leaves, k);
            }
        }
        Run.about("SEVERAL: k LEAVES (1 to 60) of two PAGES each are out: which numbers of LEAVES fit (k or more), rising; "
                + "for one of no more than 60 LEAVES in how many ways.");
        for (int k = 1; k <= 7; k++) {
            for (int s = 1; s <= 400; s++) {
                numbersOf(s, k);
            }
        }
        manyWays();
        greatSums();
        wrongInputs();
        Run.end("SeveralTest");
    }

    private static int sumLeft(int leaves, int out) {
        int left = 0;
        for (int leaf = 0; leaf < leaves; leaf++) {
            left += (out >> leaf & 1) != 0 ? 0 : 4 * leaf + 3;
        }
        return left;
    }

    /** All ways for each sum, by looking at all sets of leaves. */
    private static void waysOf(int leaves, int k) {
        for (int s = 1; s <= leaves * (2 * leaves + 1) + 3; s++) {
            List<Integer> ways = new ArrayList<>();
            for (int out = 0; out < 1 << leaves; out++) {
                if (Integer.bitCount(out) == k && sumLeft(leaves, out) == s) {
                    ways.add(out);
                }
            }
            // Of rows of as many leaves that is the first whose bits, read from leaf 0 on, are first set.
            ways.sort((a, b) -> Integer.compareUnsigned(Integer.reverse(b), Integer.reverse(a)));
            Run run = Run.free().due(ways.size(), "ways", s, k, leaves);
            for (int i = 0; i < ways.size(); i++) {
                run.due(ways.get(i), "way", s, k, leaves, i);
            }
            run.noSuch("way", s, k, leaves, ways.size()).noSuch("way", s, k, leaves, -1);
        }
    }

    private static void numbersOf(int s, int k) {
        List<Integer> fits = new ArrayList<>();
        for (int leaves = k; leaves <= 26; leaves++) {
            if (canBe(leaves, k, 0, leaves * (2 * leaves + 1) - s)) {
                fits.add(leaves);
            }
        }
        Run run = Run.free().due(fits.size(), "several", s, k, -1);
        for (int i = 0; i < fits.size(); i++) {
            run.due(fits.get(i), "several", s, k, i);
        }
        run.noSuch("several", s, k, fits.size()).noSuch("several", s, k, -2);
    }

    private static boolean canBe(int leaves, int k, int from, int out) {
        if (k == 0 || out < 0) {
            return k == 0 && out == 0;
        }
        for (int leaf = from; leaf < leaves && 4 * leaf + 3 <= out; leaf++) {
            if (canBe(leaves, k - 1, leaf + 1, out - 4 * leaf - 3)) {
                return true;
            }
        }
        return false;
    }

    /** By Pascal's way: with leaf L - 1 or without it. */
    private static void manyWays() {
        long[][] ways = new long[61][1771];
        ways[0][0] = 1;
        for (int leaves = 1; leaves <= 60; leaves++) {
            for (int k = leaves; k >= 1; k--) {
                for (int total = 1770; total >= leaves - 1; total--) {
                    ways[k][total] += ways[k - 1][total - leaves + 1];
                }
            }
            if (leaves % 12 == 0 || leaves == 59 || leaves == 31) {
                compare(leaves, ways);
            }
        }
        // The last way of many: the greatest rows come last.
        Run run = Run.free();
        long s = 30 * 61 - 3 * 15 - 4 * 217;
        long many = ways30(15, 217);
        run.due(many, "ways", s, 15, 30).noSuch("way", s, 15, 30, many).noSuch("way", s, 15, 30, Long.MAX_VALUE);
        Run.isTrue("ways are many", many > 1000000);
        long last = Long.parseLong(run.answer("way", s, 15, 30, many - 1));
        long first = Long.parseLong(run.answer("way", s, 15, 30, 0));
        Run.isTrue("the last way makes the sum", Long.bitCount(last) == 15 && sumLeft(30, (int) last) == s);
        Run.isTrue("the first way makes the sum", Long.bitCount(first) == 15 && sumLeft(30, (int) first) == s);
        Run.isTrue("the first has 0", (first & 1) == 1 && Long.numberOfTrailingZeros(last) > 6);
    }

    private static long ways30(int k, int total) {
        long[][] ways = new long[k + 1][total + 1];
        ways[0][0] = 1;
        for (int leaf = 0; leaf < 30; leaf++) {
            for (int taken = k; taken >= 1; taken--) {
                for (int sum = total; sum >= leaf; sum--) {
                    ways[taken][sum] += ways[taken - 1][sum - leaf];
                }
            }
        }
        return ways[k][total];
    }

    private static void compare(int leaves, long[][] ways) {
        Run run = Run.free();
        for (int k = 1; k <= 60; k += k < 5 ? 1 : 5) {
            for (int total = 0; total <= 1770; total += 13) {
                long s = leaves * (2L * leaves + 1) - 3L * k - 4L * total;
                if (s >= 1) {
                    run.due(ways[k][total], "ways", s, k, leaves);
                    run.due(0, "ways", s + 1 + total % 3, k, leaves);
                }
            }
        }
        // Half of the leaves, in the middle of what they can add up to, are the most ways.
        for (int k = leaves / 2; k <= (leaves + 1) / 2; k++) {
            int middle = k * (leaves - 1) / 2;
            run.due(ways[k][middle], "ways", leaves * (2L * leaves + 1) - 3L * k - 4L * middle, k, leaves);
        }
    }

    private static void greatSums() {
        Run run = Run.free().due(0, "ways", MOST, 1, 60).due(0, "ways", MOST, 60, 60).noSuch("way", MOST, 1, 30, 0);
        for (int k : new int[] {1, 2, 30, 59, 60}) {
            for (long s : new long[] {MOST, MOST - 1, MOST - 2, MOST - 3, 123456789012345678L}) {
                int many = Integer.parseInt(run.answer("several", s, k, -1));
                int found = 0;
                long low = (long) Math.sqrt(s / 2.0) - 70;
                for (long leaves = low; leaves < low + 210; leaves++) {
                    if (makes(s, k, leaves)) {
                        run.due(leaves, "several", s, k, found);
                        found++;
                    }
                }
                Run.isTrue("several of " + s + " and " + k + ": " + many + ", due is " + found, many == found);
            }
        }
    }

    private static boolean makes(long s, int k, long leaves) {
        long out = leaves * (2 * leaves + 1) - s - 3L * k;
        long least = 0;
        long most = 0;
        for (int i = 0; i < k; i++) {
            least += i;
            most += leaves - 1 - i;
        }
        return out % 4 == 0 && out / 4 >= least && out / 4 <= most;
    }

    private static void wrongInputs() {
        Run run = Run.free();
        for (long s : new long[] {0, -1, MOST + 1, Long.MAX_VALUE, Long.MIN_VALUE}) {
            run.illegal("several", s, 1, -1).illegal("several", s, 1, 9).illegal("ways", s, 1, 3).illegal("way", s, 1, 3, 0);
        }
        for (int k : new int[] {0, -1, 61, Integer.MAX_VALUE, Integer.MIN_VALUE}) {
            run.illegal("several", 3, k, -1).illegal("several", 3, k, 99).illegal("ways", 3, k, 3).illegal("way", 3, k, 3, 9);
        }
        for (int leaves : new int[] {0, -1, 61, Integer.MAX_VALUE, Integer.MIN_VALUE}) {
            run.illegal("ways", 3, 1, leaves).illegal("way", 3, 1, leaves, 0).illegal("way", 3, 1, leaves, -1);
        }
        run.illegal("way", 3, 1, 31, 0).due(0, "ways", 3, 60, 1).noSuch("way", 3, 60, 30, 0).noSuch("way", 3, 1, 30, -1);
        run.due(1, "way", 7, 1, 2, 0).due(2, "way", 3, 1, 2, 0).noSuch("way", 3, 1, 2, Long.MIN_VALUE);
        run.noSuch("several", 3, 1, Integer.MAX_VALUE).noSuch("several", 3, 1, Integer.MIN_VALUE);
        run.noSuch("several", 1, 1, 0).due(0, "several", 1, 1, -1);
    }
}
