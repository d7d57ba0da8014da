import java.util.ArrayList;
import java.util.HashSet;
import java.util.List;

/** Promises 17, 18, 23 and 24: one leaf is out of a plain book, what is said more, and which saying tells. */
public final class FitsTest {
    private static final long MOST = 1000000000000000000L;
    private static final int MOST_PAGES = 90;

    public static void main(String[] args) {
        List<List<long[]>> all = bruteFits();
        Run.about("ONE LEAF is out of a plain BOOK of any number of PAGES (of an odd one the last LEAF has one PAGE), and what is left "
                + "adds up to S (1 to 10 to the power of 18): FITS are all numbers of PAGES, with the LEAF that is out, by which it is so, "
                + "by rising numbers of PAGES, of like ones by LEAVES.");
        for (int s = 1; s < all.size(); s++) {
            fits(s, all.get(s));
        }
        Run.about("SAID more of ONE LEAF: how many FIGURES f are printed on what is left: how many FITS are so.");
        for (int s = 1; s < all.size(); s++) {
            said(s, all.get(s));
        }
        Run.about("TELLS APART: the least saying by which all FITS are unlike: 0 to 9 such a figure, 10 all FIGURES, 11 how many LEAVES "
                + "there were; none, if none does (with fewer than two FITS 0 does).");
        for (int s = 1; s < all.size(); s++) {
            tells(s, all.get(s));
        }
        Run.about("FITS are all numbers of PAGES, with the LEAF that is out, by which it is so");
        for (long n = 4; n < 1400000000L; n = n * 3 + n % 7) {
            greatBook(n, 0);
            greatBook(n, n / 4);
            greatBook(n, (n + 1) / 2 - 1);
        }
        wrongInputs();
        Run.end("FitsTest");
    }

    /** By each sum the pages and the leaf of all fits, as far as no longer book can fit. */
    private static List<List<long[]>> bruteFits() {
        List<List<long[]>> all = new ArrayList<>();
        for (int s = 0; s <= MOST_PAGES * (MOST_PAGES - 5) / 2; s++) {
            all.add(new ArrayList<>());
        }
        for (int n = 1; n <= MOST_PAGES; n++) {
            for (int leaf = 0; leaf < (n + 1) / 2; leaf++) {
                int left = 0;
                for (int page = 1; page <= n; page++) {
                    left += (page - 1) / 2 == leaf ? 0 : page;
                }
                if (left < all.size()) {
                    all.get(left).add(new long[] {n, leaf});
                }
            }
        }
        return all;
    }

    private static long saying(long[] fit, int what) {
        if (what == 11) {
            return (fit[0] + 1) / 2;
        }
        long many = 0;
        for (int page = 1; page <= fit[0]; page++) {
            for (char figure : Integer.toString(page).toCharArray()) {
                many += (page - 1) / 2 != fit[1] && (what == 10 || figure - '0' == what) ? 1 : 0;
            }
        }
        return many;
    }

    private static void fits(int s, List<long[]> fits) {
        Run run = Run.free().due(fits.size(), "fits", s, -1);
        for (int i = 0; i < fits.size(); i++) {
            run.due(fits.get(i)[0], "fits", s, i).due(fits.get(i)[1], "leaf", s, i);
        }
        run.noSuch("fits", s, fits.size()).noSuch("leaf", s, fits.size()).noSuch("leaf", s, -1);
    }

    private static List<Long> sayings(List<long[]> fits, int what) {
        List<Long> said = new ArrayList<>();
        for (long[] fit : fits) {
            said.add(saying(fit, what));
        }
        return said;
    }

    private static void said(int s, List<long[]> fits) {
        Run run = Run.free();
        for (int figure = 0; figure <= 10; figure++) {
            List<Long> said = sayings(fits, figure);
            for (long many : new HashSet<>(said)) {
                long alike = said.stream().filter(other -> other == many).count();
                run.due(alike, "said", s, figure, many).due(0, "said", s, figure, many + 1000);
            }
        }
        run.due(0, "said", s, 3, -1).due(0, "said", s, 10, Long.MAX_VALUE);
    }

    private static void tells(int s, List<long[]> fits) {
        int tells = -1;
        for (int what = 11; what >= 0; what--) {
            tells = new HashSet<>(sayings(fits, what)).size() == fits.size() ? what : tells;
        }
        Run.free().due(tells, "tells", s);
    }

    /** A sum that one fit makes has it, and all its fits make that sum. */
    private static void greatBook(long n, long leaf) {
        long s = left(n, leaf);
        Run run = Run.free();
        int many = Integer.parseInt(run.answer("fits", s, -1));
        boolean has = false;
        long before = 0;
        for (int i = 0; i < many; i++) {
            long pages = Long.parseLong(run.answer("fits", s, i));
            long out = Long.parseLong(run.answer("leaf", s, i));
            Run.isTrue("fit " + i + " of " + s, left(pages, out) == s && out >= 0 && out < (pages + 1) / 2);
            Run.isTrue("fits of " + s + " rise", pages * 2000000000L + out > before);
            before = pages * 2000000000L + out;
            has |= pages == n && out == leaf;
        }
        Run.isTrue("the fit " + n + ", " + leaf + " of " + s, has);
        run.noSuch("fits", s, many).noSuch("leaf", s, many);
    }

    private static long left(long n, long leaf) {
        long out = 2 * leaf + 1 == n ? n : 4 * leaf + 3;
        return n * (n + 1) / 2 - out;
    }

    private static void wrongInputs() {
        Run.about("NoSuchElementException (behind IllegalArgumentException): no such figure.");
        Run run = Run.free();
        for (long s : new long[] {0, -1, MOST + 1, Long.MAX_VALUE, Long.MIN_VALUE}) {
            run.illegal("fits", s, -1).illegal("fits", s, 99).illegal("leaf", s, 0).illegal("leaf", s, -5);
            run.illegal("said", s, 1, 1).illegal("said", s, 11, 1).illegal("said", s, -1, 1).illegal("tells", s);
        }
        for (long s : new long[] {1, 3, 19861, MOST}) {
            run.noSuch("fits", s, -2).noSuch("fits", s, Integer.MIN_VALUE).noSuch("fits", s, Integer.MAX_VALUE);
            run.noSuch("leaf", s, -1).noSuch("leaf", s, Integer.MIN_VALUE).noSuch("leaf", s, Integer.MAX_VALUE);
            run.noSuch("said", s, 11, 0).noSuch("said", s, -1, 0).noSuch("said", s, Integer.MAX_VALUE, 0);
        }
        // Each call looks at its own sum, whatever was asked before.
        Run.free().due(9, "leaf", 19861, 0).due(1, "leaf", 3, 2).due(59, "leaf", 19861, 1).noSuch("leaf", 1, 0);
        Run.free().due(1, "said", 3, 3, 1).due(0, "said", 1, 3, 1).due(1, "said", 3, 3, 1).due(-1, "tells", 3).due(0, "tells", 1);
        run.due(0, "fits", 1, -1).due(0, "tells", 1).due(0, "said", 1, 1, 0);
        run.due(3, "fits", 3, -1).due(-1, "tells", 3).due(2, "said", 3, 1, 1).due(1, "said", 3, 3, 1);
        greatBook(1414213563L, 707106780L);
    }
}
