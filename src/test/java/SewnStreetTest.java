import java.util.HashMap;
import java.util.Map;

/** Promises 21 and 22: a sheet is out of a sewn book, a house is gone from a street. */
public final class SewnStreetTest {
    private static final long MOST = 1000000000000000000L;

    public static void main(String[] args) {
        sewn();
        street(0);
        street(1);
        great();
        wrongInputs();
        Run.end("SewnStreetTest");
    }

    private static void sewn() {
        Run.about("A SHEET is out of a sewn BOOK: the number of LEAVES that fits (there is one at most).");
        Map<Integer, Integer> leavesBySum = new HashMap<>();
        for (int leaves = 2; leaves <= 60; leaves += 2) {
            for (int sheet = 0; sheet < leaves / 2; sheet++) {
                int left = 0;
                for (int leaf = 0; leaf < leaves; leaf++) {
                    left += leaf == sheet || leaf == leaves - 1 - sheet ? 0 : 4 * leaf + 3;
                }
                Integer other = leavesBySum.put(left, leaves);
                Run.isTrue("there is one at most for " + left, other == null || other == leaves);
            }
        }
        Run run = Run.free();
        for (int s = 1; s <= 6000; s++) {
            run.due(leavesBySum.getOrDefault(s, -1), "sewn", s);
        }
    }

    private static void street(int side) {
        Run.about("A HOUSE is gone from a side of a STREET (odd: 1, 3 ..; even: 2, 4 ..): how many houses there were, and which is gone "
                + "(there is one way at most).");
        Map<Integer, int[]> waysBySum = new HashMap<>();
        for (int houses = 1; houses <= 80; houses++) {
            for (int gone = 1; gone <= houses; gone++) {
                int left = 0;
                for (int house = 1; house <= houses; house++) {
                    left += house == gone ? 0 : 2 * house - 1 + side;
                }
                int[] other = waysBySum.put(left, new int[] {houses, 2 * gone - 1 + side});
                Run.isTrue("there is one way at most for " + left, other == null || left == 0);
            }
        }
        Run run = Run.free();
        for (int s = 1; s <= 5000; s++) {
            int[] way = waysBySum.getOrDefault(s, new int[] {-1, -1});
            run.due(way[0], "street", s, side, false).due(way[1], "street", s, side, true);
        }
    }

    private static void great() {
        Run run = Run.free();
        long leaves = 707106780L;
        run.due(leaves, "sewn", (2 * leaves + 1) * (leaves - 2)).due(-1, "sewn", (2 * leaves + 1) * (leaves - 2) - 1);
        run.due(-1, "sewn", (2 * leaves + 3) * (leaves - 1)).due(-1, "sewn", MOST).due(-1, "sewn", 1);
        run.due(1000000001L, "street", MOST, 0, false).due(2000000001L, "street", MOST, 0, true);
        run.due(-1, "street", MOST - 1, 1, true).due(-1, "street", MOST - 1, 1, false);
        run.due(1000000000L, "street", MOST, 1, false).due(1000000000L, "street", MOST, 1, true);
        run.due(1000000000L, "street", MOST - 1, 0, false).due(1, "street", MOST - 1, 0, true);
    }

    private static void wrongInputs() {
        Run run = Run.free();
        for (long s : new long[] {0, -1, MOST + 1, Long.MAX_VALUE, Long.MIN_VALUE}) {
            run.illegal("sewn", s).illegal("street", s, 0, true).illegal("street", s, 1, false);
            // The side comes ahead of the sum.
            run.noSuch("street", s, 2, true).noSuch("street", s, -1, false);
        }
        run.noSuch("street", 5, 2, true).noSuch("street", 5, -1, true).noSuch("street", 5, Integer.MAX_VALUE, false);
        run.noSuch("street", 5, Integer.MIN_VALUE, false).due(-1, "street", 2, 0, true).due(2, "street", 1, 0, false);
        run.due(3, "street", 1, 0, true).due(-1, "street", 1, 1, true).due(2, "street", 2, 1, false);
    }
}
