/** The document's sentences on promises 17 to 24 and 32: what a sum tells, at its edges and with wrong inputs. */
public final class EdgeSumTest {
    private static final long MOST = 1000000000000000000L;
    private static final long[] NO_SUMS = {0, -1, MOST + 1, Long.MIN_VALUE, Long.MAX_VALUE};
    private static final int[] NO_INDEX = {-2, Integer.MIN_VALUE, Integer.MAX_VALUE};

    public static void main(String[] args) {
        sums();
        sumsAheadOfAllElse();
        fits();
        fitsOfOddBooks();
        fitsInOrder();
        noFit();
        leaf();
        several();
        severalLeaves();
        mostLeavesOfWays();
        ways();
        waysWrong();
        way();
        wayNone();
        sewn();
        street();
        streetNone();
        streetOneWay();
        noSide();
        said();
        tells();
        tellsNone();
        fewFits();
        Run.end("EdgeSumTest");
    }

    private static void sums() {
        Run.about("what is left adds up to S (1 to 10 to the power of 18)");
        Run run = Run.free();
        for (long s : NO_SUMS) {
            run.illegal("fits", s, -1).illegal("leaf", s, 0).illegal("several", s, 1, -1).illegal("ways", s, 1, 1);
            run.illegal("sewn", s).illegal("street", s, 0, true).illegal("said", s, 0, 0).illegal("tells", s);
            run.illegal("way", s, 1, 1, 0);
        }
        for (long s : new long[] {1, MOST}) {
            run.due(s == 1 ? 0 : 1, "fits", s, -1).due(0, "ways", s, 1, 1).due(-1, "sewn", s).due(0, "tells", s);
            run.due(s == 1 ? 0 : 1, "several", s, 1, -1).due(0, "said", s, 0, -1).noSuch("way", s, 1, 1, 0);
        }
        run.due(1414213562L, "fits", MOST, 0).due(44867675, "leaf", MOST, 0).noSuch("leaf", 1, 0);
        run.due(2, "street", 1, 0, false).due(1000000001L, "street", MOST, 0, false);
    }

    private static void sumsAheadOfAllElse() {
        Run.about("IllegalArgumentException (ahead): S (as everywhere, ahead of all else but the side of a STREET).");
        Run run = Run.free();
        for (long s : NO_SUMS) {
            run.illegal("fits", s, 0).illegal("fits", s, -2).illegal("leaf", s, -1).illegal("several", s, 0, 0);
            run.illegal("several", s, 1, -2).illegal("said", s, 11, 0).illegal("said", s, -1, 0).illegal("way", s, 1, 1, -1);
            run.noSuch("street", s, 2, true).noSuch("street", s, -1, false).noSuch("street", s, Integer.MIN_VALUE, true);
        }
    }

    private static void fits() {
        Run.about("ONE LEAF: how many FITS (i NONE), PAGES of the i-th. NoSuchElementException: there is none.");
        Run run = Run.free().due(0, "fits", 1, -1).due(0, "fits", 2, -1).due(3, "fits", 3, -1).due(0, "fits", 4, -1);
        run.due(1, "fits", 7, -1).due(4, "fits", 7, 0).due(2, "fits", 10, -1).due(5, "fits", 10, 0).due(6, "fits", 10, 1);
        run.due(3, "fits", 21, -1).due(8, "fits", 21, 2).due(0, "fits", MOST - 2, -1);
        run.due(1, "fits", MOST - 1, -1).due(1414213563L, "fits", MOST - 1, 0).due(398421066L, "leaf", MOST - 1, 0);
        int[] many = {0, 0, 0, 3, 0, 0, 0, 1, 1, 0, 2, 0, 1};
        for (int s = 1; s < many.length; s++) {
            run.due(many[s], "fits", s, -1).noSuch("fits", s, many[s]);
            for (int no : NO_INDEX) {
                run.noSuch("fits", s, no);
            }
        }
        run.noSuch("fits", MOST, 1).noSuch("fits", MOST, -2);
    }

    private static void fitsOfOddBooks() {
        Run.about("ONE LEAF is out of a plain BOOK of any number of PAGES (of an odd one the last LEAF has one PAGE)");
        // Of three pages without the last one: 1 and 2; of five 1 to 4.
        Run run = Run.free().due(3, "fits", 3, 1).due(1, "leaf", 3, 1).due(5, "fits", 10, 0).due(2, "leaf", 10, 0);
        // Of five pages without the first leaf: 3, 4, 5; of six: 18.
        run.due(5, "fits", 12, 0).due(0, "leaf", 12, 0).due(1, "fits", 12, -1).due(6, "fits", 18, 0).due(0, "leaf", 18, 0);
        // A book of one or two pages has nothing left, and 0 is no sum.
        run.illegal("fits", 0, -1).due(0, "fits", 1, -1).due(0, "fits", 2, -1);
        // Far on: 1 to 1414213560, the last page of 1414213561 out.
        long n = 1414213561L;
        run.due(n, "fits", n * (n - 1) / 2, 0).due((n - 1) / 2, "leaf", n * (n - 1) / 2, 0);
    }

    private static void fitsInOrder() {
        Run.about("by rising numbers of PAGES, of like ones by LEAVES");
        long[][] fits = {{3, 3, 0}, {3, 3, 1}, {3, 4, 1}, {21, 7, 1}, {21, 7, 3}, {21, 8, 3}, {10, 5, 2}, {10, 6, 2}};
        Run run = Run.free();
        int i = 0;
        for (int at = 0; at < fits.length; at++) {
            i = at > 0 && fits[at - 1][0] == fits[at][0] ? i + 1 : 0;
            run.due(fits[at][1], "fits", fits[at][0], i).due(fits[at][2], "leaf", fits[at][0], i);
        }
    }

    private static void noFit() {
        Run.about("NoSuchElementException: there is none.");
        Run run = Run.free();
        for (long s : new long[] {1, 2, 4, 5, 6, 9, 11, MOST - 2, MOST - 3}) {
            run.due(0, "fits", s, -1).noSuch("fits", s, 0).noSuch("leaf", s, 0).noSuch("fits", s, 1).noSuch("leaf", s, -1);
        }
        run.due(4, "fits", 3, 2).noSuch("fits", 3, 3).due(1, "leaf", 3, 2).noSuch("leaf", 3, 3).noSuch("leaf", 19861, 2);
    }

    private static void leaf() {
        Run.about("Which LEAF is out by the i-th FIT.");
        Run run = Run.free().due(0, "leaf", 3, 0).due(0, "leaf", 7, 0).due(1, "leaf", 8, 0).due(9, "leaf", 19861, 0);
        run.due(59, "leaf", 19861, 1);
        for (long s : new long[] {3, 7, 19861}) {
            run.noSuch("leaf", s, -1);
            for (int no : NO_INDEX) {
                run.noSuch("leaf", s, no);
            }
        }
    }

    private static void several() {
        Run.about("SEVERAL: how many numbers of LEAVES fit (i NONE), the i-th. IllegalArgumentException: also k.");
        Run run = Run.free().due(1, "several", 3, 1, -1).due(2, "several", 3, 1, 0).noSuch("several", 3, 1, 1);
        run.due(0, "several", 1, 1, -1).noSuch("several", 1, 1, 0).noSuch("several", 3, 1, -2);
        run.due(1, "several", MOST, 1, -1).due(707106781, "several", MOST, 1, 0).noSuch("several", MOST, 1, 1);
        run.due(15, "several", MOST, 60, -1).due(707106784, "several", MOST, 60, 0).due(707106840, "several", MOST, 60, 14);
        run.noSuch("several", MOST, 60, 15).due(15, "several", MOST, 59, -1).due(707106783, "several", MOST, 59, 0);
        for (int no : NO_INDEX) {
            run.noSuch("several", MOST, 60, no).noSuch("several", 1, 60, no);
        }
        for (int k : new int[] {0, -1, 61, Integer.MIN_VALUE, Integer.MAX_VALUE}) {
            run.illegal("several", 3, k, -1).illegal("several", MOST, k, 0).illegal("several", 3, k, -2);
        }
    }

    private static void severalLeaves() {
        Run.about("k LEAVES (1 to 60) of two PAGES each are out: which numbers of LEAVES fit (k or more), rising");
        Run run = Run.free();
        // All but the first leaf are out, so that one is left.
        for (int k = 1; k <= 60; k++) {
            run.due(k + 1, "several", 3, k, 0).due(1, "several", 3, k, -1).noSuch("several", 3, k, 1);
        }
        // All but the second, of three leaves; all but the first two of four, all but the third of five.
        run.due(3, "several", 7, 2, 0).due(4, "several", 10, 2, 0).due(1, "several", 10, 2, -1).due(5, "several", 11, 4, 0);
        // Leaves 8 and 10 of eleven are left, or leaves 0 to 5 of fifteen.
        run.due(2, "several", 78, 9, -1).due(11, "several", 78, 9, 0).due(15, "several", 78, 9, 1).noSuch("several", 78, 9, 2);
    }

    private static void mostLeavesOfWays() {
        Run.about("for one of no more than 60 LEAVES in how many ways");
        Run run = Run.free().due(1, "ways", 60 * 121 - 239, 1, 60).due(1, "ways", 3, 59, 60).illegal("ways", 3, 59, 61);
        run.due(1, "ways", 3, 1, 2).due(0, "ways", 3, 1, 1).illegal("ways", 3, 1, 0);
    }

    private static void ways() {
        Run.about("In how many ways k LEAVES of a BOOK of so many (1 to 60) can be out.");
        Run run = Run.free();
        for (int leaves = 1; leaves <= 60; leaves++) {
            int whole = leaves * (2 * leaves + 1);
            // The first leaf is out, the last one; none, or more than there are, never.
            run.due(leaves == 1 ? 0 : 1, "ways", Math.max(1, whole - 3), 1, leaves).due(leaves == 1 ? 0 : 1, "ways",
                    Math.max(1, whole - 4 * leaves + 1), 1, leaves);
            run.due(0, "ways", whole, 1, leaves).due(0, "ways", whole + 1, 1, leaves).due(0, "ways", 3, leaves, leaves);
            run.due(0, "ways", 1, 60, leaves).due(0, "ways", 3, 60, leaves);
        }
        // Of 60 leaves 30 in the middle of all sums: ways that no int could count.
        run.due(0, "ways", MOST, 30, 60).due(0, "ways", 60 * 121 - 90 - 4 * 885 + 1, 30, 60);
        long many = Long.parseLong(run.answer("ways", 60 * 121 - 90 - 4 * 885, 30, 60));
        Run.isTrue("they are many: " + many, many == waysByPascal(60, 30, 885) && many > 1L << 40);
    }

    private static long waysByPascal(int leaves, int k, int total) {
        long[][] ways = new long[k + 1][total + 1];
        ways[0][0] = 1;
        for (int leaf = 0; leaf < leaves; leaf++) {
            for (int out = k; out > 0; out--) {
                for (int sum = total; sum >= leaf; sum--) {
                    ways[out][sum] += ways[out - 1][sum - leaf];
                }
            }
        }
        return ways[k][total];
    }

    private static void waysWrong() {
        Run.about("IllegalArgumentException: also k, LEAVES.");
        Run run = Run.free();
        for (int no : new int[] {0, -1, 61, Integer.MIN_VALUE, Integer.MAX_VALUE}) {
            run.illegal("ways", 3, no, 2).illegal("ways", 3, 1, no).illegal("ways", 3, no, no);
        }
        run.due(0, "ways", 3, 60, 1).due(0, "ways", 3, 60, 60).due(0, "ways", 3, 1, 60);
    }

    private static void way() {
        Run.about("A WAY of k LEAVES out of a BOOK of so many (1 to 30), as in 3: all WAYS as rows of rising LEAVES, the first row first.");
        Run run = Run.free().due(1, "way", 7, 1, 2, 0).due(2, "way", 3, 1, 2, 0);
        // Two of four leaves whose numbers make 3: 0 and 3, then 1 and 2.
        run.due(2, "ways", 36 - 6 - 12, 2, 4).due(0b1001, "way", 18, 2, 4, 0).due(0b0110, "way", 18, 2, 4, 1).noSuch("way", 18, 2, 4, 2);
        // Three of six whose numbers make 8: 0 3 5, 1 2 5, 1 3 4.
        long s = 6 * 13 - 9 - 32;
        run.due(3, "ways", s, 3, 6).due(0b101001, "way", s, 3, 6, 0).due(0b100110, "way", s, 3, 6, 1);
        run.due(0b011010, "way", s, 3, 6, 2).noSuch("way", s, 3, 6, 3);
        // The last leaf of thirty is bit 29; all but one are out.
        run.due(1 << 29, "way", 30 * 61 - 119, 1, 30, 0).due((1 << 30) - 2, "way", 3, 29, 30, 0);
        run.due((1 << 29) - 1, "way", 119, 29, 30, 0);
    }

    private static void wayNone() {
        Run.about("The i-th WAY (0 on), as bits of LEAVES. NoSuchElementException: there is none.");
        Run run = Run.free();
        for (long no : new long[] {-1, 1, 2, Long.MIN_VALUE, Long.MAX_VALUE, 1L << 32}) {
            run.noSuch("way", 7, 1, 2, no).noSuch("way", 8, 1, 2, no);
        }
        run.due(1, "way", 7, 1, 2, 0).noSuch("way", 8, 1, 2, 0).noSuch("way", 3, 30, 30, 0).noSuch("way", 3, 31, 30, 0);
        run.noSuch("way", 3, 60, 30, 0).noSuch("way", MOST, 1, 30, 0).noSuch("way", 3, 2, 1, 0);
        Run.about("IllegalArgumentException (ahead): S, k, LEAVES.");
        for (int no : new int[] {0, -1, 61, Integer.MIN_VALUE, Integer.MAX_VALUE}) {
            run.illegal("way", 7, no, 2, 0).illegal("way", 7, 1, no, 0).illegal("way", 7, no, 2, -1).illegal("way", 7, 1, no, 99);
        }
        run.illegal("way", 7, 1, 31, 0).illegal("way", 7, 1, 31, -1).illegal("way", 0, 1, 2, -1).illegal("way", MOST + 1, 1, 2, 99);
        run.noSuch("way", 7, 60, 30, 0).noSuch("way", 1, 1, 1, 0);
    }

    private static void sewn() {
        Run.about("A SHEET is out of a sewn BOOK: the number of LEAVES that fits (there is one at most).");
        Run run = Run.free().due(-1, "sewn", 1).due(-1, "sewn", 17).due(4, "sewn", 18).due(-1, "sewn", 19);
        // Five leaves would have 33 left; six have 52.
        run.due(-1, "sewn", 7).due(-1, "sewn", 33).due(-1, "sewn", 51).due(6, "sewn", 52).due(-1, "sewn", 53);
        run.due(707106780, "sewn", 999999994522616458L).due(-1, "sewn", 999999994522616457L).due(-1, "sewn", 999999994522616459L);
        run.due(-1, "sewn", 999999997351043577L).due(-1, "sewn", MOST).due(-1, "sewn", MOST - 1);
        Run.about("A SHEET is out: LEAVES; NONE: none fits.");
        for (int s = 1; s < 18; s++) {
            run.due(-1, "sewn", s);
        }
    }

    private static void street() {
        Run.about("A HOUSE is gone from a side (0 odd, 1 even): how many houses there were (which false), the number of that");
        // 3 without 1 and 1 without 3; 4 without 2 and 2 without 4.
        Run run = Run.free().due(2, "street", 3, 0, false).due(1, "street", 3, 0, true).due(2, "street", 1, 0, false);
        run.due(3, "street", 1, 0, true).due(2, "street", 4, 1, false).due(2, "street", 4, 1, true).due(2, "street", 2, 1, false);
        run.due(4, "street", 2, 1, true).due(3, "street", 4, 0, false).due(5, "street", 4, 0, true);
        run.due(3, "street", 8, 0, false).due(1, "street", 8, 0, true).due(3, "street", 6, 1, false).due(6, "street", 6, 1, true);
        run.due(3, "street", 10, 1, false).due(2, "street", 10, 1, true);
        run.due(1000000001L, "street", MOST, 0, false).due(2000000001L, "street", MOST, 0, true);
        run.due(1000000000L, "street", MOST - 1, 0, false).due(1, "street", MOST - 1, 0, true);
        run.due(1000000000L, "street", MOST, 1, false).due(1000000000L, "street", MOST, 1, true);
    }

    private static void streetNone() {
        Run.about("which is gone (true); NONE: none fits.");
        Run run = Run.free();
        for (long s : new long[] {2, 5, 7, 10, MOST - 2}) {
            run.due(-1, "street", s, 0, true).due(-1, "street", s, 0, false);
        }
        for (long s : new long[] {1, 3, 5, 7, 9, 11, MOST - 1}) {
            run.due(-1, "street", s, 1, true).due(-1, "street", s, 1, false);
        }
    }

    private static void streetOneWay() {
        Run.about("A HOUSE is gone from a side of a STREET (odd: 1, 3 ..; even: 2, 4 ..): how many houses there were, and which is gone");
        for (int side = 0; side <= 1; side++) {
            Run run = Run.free();
            for (int houses = 2; houses <= 30; houses++) {
                for (int gone = 1 + side; gone <= 2 * houses; gone += 2) {
                    int left = houses * (houses + side) - gone;
                    run.due(houses, "street", left, side, false).due(gone, "street", left, side, true);
                }
            }
        }
    }

    private static void noSide() {
        Run.about("NoSuchElementException (ahead): no such side.");
        Run run = Run.free();
        for (int side : new int[] {-1, 2, 3, Integer.MIN_VALUE, Integer.MAX_VALUE}) {
            run.noSuch("street", 5, side, true).noSuch("street", 5, side, false).noSuch("street", 0, side, true);
            run.noSuch("street", MOST + 1, side, false);
        }
        run.illegal("street", 0, 0, true).illegal("street", 0, 1, false).illegal("street", MOST + 1, 1, true);
    }

    private static void said() {
        Run.about("SAID more: how many FITS have just so many FIGURES (0 to 10). NoSuchElementException (behind IllegalArgumentException)");
        // What is left of the fits of 3: page 3; 1 and 2; 1 and 2.
        Run run = Run.free().due(3, "said", 3, 0, 0).due(1, "said", 3, 1, 0).due(2, "said", 3, 1, 1).due(0, "said", 3, 1, 2);
        run.due(1, "said", 3, 3, 1).due(2, "said", 3, 3, 0).due(1, "said", 3, 10, 1).due(2, "said", 3, 10, 2);
        run.due(0, "said", 3, 10, 3).due(0, "said", 3, 10, 0).due(0, "said", 3, 0, -1).due(0, "said", 3, 0, Long.MAX_VALUE);
        run.due(0, "said", 3, 0, Long.MIN_VALUE).due(0, "said", 3, 0, 1L << 32).due(3, "said", 3, 9, 0);
        run.due(1, "said", 19861, 10, 485).due(1, "said", 19861, 10, 486).due(0, "said", 19861, 10, 484);
        for (int figure : new int[] {-1, 11, Integer.MIN_VALUE, Integer.MAX_VALUE}) {
            run.noSuch("said", 3, figure, 0).noSuch("said", 1, figure, 0).illegal("said", 0, figure, 0);
            run.illegal("said", MOST + 1, figure, 0);
        }
        run.due(0, "said", 1, 0, 0).due(0, "said", 1, 10, 0);
    }

    private static void tells() {
        Run.about("0 to 9 such a figure, 10 all FIGURES, 11 how many LEAVES there were; none, if none does");
        Run run = Run.free().due(0, "tells", 59).due(1, "tells", 25).due(2, "tells", 481).due(3, "tells", 1525);
        run.due(4, "tells", 2835).due(5, "tells", 4545).due(6, "tells", 214765).due(7, "tells", 8113).due(9, "tells", 404447);
        // Two fits whose pages left bear the same figures; three of which two leave the same pages.
        run.due(-1, "tells", 10).due(-1, "tells", 36).due(-1, "tells", 1492113).due(-1, "tells", 3).due(-1, "tells", 21);
    }

    private static void tellsNone() {
        Run.about("TELLS APART; NONE: none does.");
        // Of three fits of an odd triangle's book two always leave the same pages.
        Run run = Run.free();
        for (long s : new long[] {3, 21, 55, 105, 171, 253, 10, 36, 78, 136, 2039167}) {
            run.due(-1, "tells", s);
        }
    }

    private static void fewFits() {
        Run.about("(with fewer than two FITS 0 does)");
        Run.free().due(0, "tells", 1).due(0, "tells", 2).due(0, "tells", 7).due(0, "tells", 8).due(0, "tells", MOST).due(0, "tells", 18);
    }
}
