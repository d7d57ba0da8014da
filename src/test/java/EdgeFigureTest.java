/** The document's sentences on promises 25 to 29 and 33: lead, figures, copies, at their edges and with wrong inputs. */
public final class EdgeFigureTest {
    private static final long MOST = 1000000000000000L;
    private static final String NINES = "9999 9999 9999 9999 9999 9999 9999 9999 9999 9999;";
    private static final int[] NO_START = {-1, 100000000, Integer.MIN_VALUE, Integer.MAX_VALUE};

    public static void main(String[] args) {
        far();
        back();
        backNone();
        starts();
        shortOf();
        shortOfNone();
        stands();
        which();
        bothWays();
        skipWrong();
        whole();
        wholeNone();
        wholeOfMany();
        bought();
        between();
        betweenWrong();
        Run.end("EdgeFigureTest");
    }

    private static Run lead(String lead) {
        return Run.of("lead " + lead);
    }

    private static void far() {
        Run.about("FAR: numbering 1, 2, 3 .. with LEAD: the last number that can be printed whole (0: none).");
        lead("0 0 0 0 0 0 0 0 0 0;").due(0, "far", 0);
        lead("9 0 9 9 9 9 9 9 9 9;").due(0, "far", 0);
        lead("0 1 0 0 0 0 0 0 0 0;").due(1, "far", 0);
        lead("0 1 1 1 1 1 1 1 1 1;").due(9, "far", 0);
        lead("0 2 1 1 1 1 1 1 1 1;").due(9, "far", 0);
        lead("1 2 1 1 1 1 1 1 1 1;").due(10, "far", 0);
        // A number of which but one figure is short isn't printed.
        lead("1 3 1 1 1 1 1 1 1 1;").due(10, "far", 0);
        lead("1 4 1 1 1 1 1 1 1 1;").due(11, "far", 0);
        // 9999 of each last up to the 9999th 1.
        long far = Long.parseLong(lead(NINES).answer("far", 0));
        Run.isTrue("1 is printed 9999 times up to " + far, ones(far) <= 9999 && ones(far + 1) > 9999);
        lead("9999 0 9999 9999 9999 9999 9999 9999 9999 9999;").due(0, "far", 0);
        new Run().due(162, "far", 0);
    }

    private static long ones(long last) {
        long many = 0;
        for (long number = 1; number <= last; number++) {
            many += Long.toString(number).chars().filter(figure -> figure == '1').count();
        }
        return many;
    }

    private static void back() {
        Run.about("BACK: numbering N, N - 1 .. 1 (N 1 to 99999999): the last one that can be");
        lead("0 1 0 0 0 0 0 0 0 0;").due(1, "far", 1).due(3, "far", 2);
        lead("0 1 1 1 1 1 1 1 1 1;").due(1, "far", 9).due(11, "far", 10).due(12, "far", 11);
        lead("1 2 1 1 1 1 1 1 1 1;").due(1, "far", 10).due(11, "far", 11);
        lead("0 1 1 1 1 1 1 1 1 2;").due(1, "far", 9);
        lead("0 0 1 1 1 1 1 1 1 1;").due(2, "far", 9);
        lead("0 0 0 0 0 0 0 0 0 8;").due(99999999, "far", 99999999);
        lead("0 0 0 0 0 0 0 0 1 15;").due(99999998, "far", 99999999);
        lead(NINES).due(99997924, "far", 99999999);
        lead(NINES).due(1, "far", 9999).due(1, "far", 10000);
    }

    private static void backNone() {
        Run.about("the last one that can be (N and 1: none)");
        lead("0 0 0 0 0 0 0 0 0 0;").due(2, "far", 1).due(10, "far", 9).due(100000000, "far", 99999999);
        lead("9 9 9 9 9 9 9 9 9 7;").due(100000000, "far", 99999999);
        lead("9 9 9 9 9 9 9 9 9 8;").due(99999999, "far", 99999999);
        lead("0 9 9 9 9 9 9 9 9 9;").due(11, "far", 10).due(1, "far", 9);
    }

    private static void starts() {
        Run.about("FAR (from 0), or BACK from N: the last number. IllegalArgumentException: N is not 0 to 99999999.");
        Run run = new Run();
        for (int no : NO_START) {
            run.illegal("far", no);
        }
        run.due(162, "far", 0).due(1, "far", 1).due(1, "far", 162).due(99999986, "far", 99999999);
        Run.about("SHORT; NONE: none. IllegalArgumentException likewise.");
        for (int no : NO_START) {
            run.illegal("lacks", no);
        }
        run.due(1, "lacks", 0).due(-1, "lacks", 1).due(-1, "lacks", 162).due(9, "lacks", 99999999);
    }

    private static void shortOf() {
        Run.about("the least one of which there isn't enough left for the next number");
        lead("0 0 0 0 0 0 0 0 0 0;").due(1, "lacks", 0).due(1, "lacks", 1).due(9, "lacks", 9).due(0, "lacks", 10).due(1, "lacks", 12);
        lead("0 9 0 9 9 9 9 9 9 9;").due(2, "lacks", 0).due(0, "lacks", 20).due(1, "far", 0);
        lead("0 1 1 1 1 1 1 1 1 1;").due(0, "lacks", 0);
        lead("1 1 1 1 1 1 1 1 1 1;").due(1, "lacks", 0);
        // 11 needs two: one is left, and that isn't enough.
        lead("1 3 1 1 1 1 1 1 1 1;").due(10, "far", 0).due(1, "lacks", 0);
        lead("9 9 9 9 9 9 9 9 9 0;").due(8, "far", 0).due(9, "lacks", 0);
        lead("0 9 9 9 9 9 9 9 9 9;").due(9, "far", 0).due(0, "lacks", 0).due(11, "far", 11).due(0, "lacks", 11);
        // Of the next number, not of the one behind it: 9 and then 10, 19 and then 18.
        lead("0 9 9 9 9 9 9 9 9 0;").due(8, "far", 0).due(9, "lacks", 0);
        lead("9 9 9 9 9 9 9 9 0 0;").due(20, "far", 20).due(9, "lacks", 20);
        // Of two that are short the least: 10 lacks 0 and 1; 21 before 20 lacks 2 alone.
        lead("0 1 9 9 9 9 9 9 9 9;").due(9, "far", 0).due(0, "lacks", 0);
        lead("9 9 1 9 9 9 9 9 9 9;").due(21, "far", 21).due(2, "lacks", 21);
    }

    private static void shortOfNone() {
        Run.about("none, if BACK is 1");
        lead("0 1 1 1 1 1 1 1 1 1;").due(1, "far", 9).due(-1, "lacks", 9).due(-1, "lacks", 1);
        lead("0 0 1 1 1 1 1 1 1 1;").due(2, "far", 9).due(1, "lacks", 9).due(2, "far", 1).due(1, "lacks", 1);
        lead("0 9 0 0 0 0 0 0 0 0;").due(1, "far", 1).due(-1, "lacks", 1).due(3, "far", 2).due(2, "lacks", 2);
        // From 0 one is always short of one in the end.
        lead("9999 1 9999 9999 9999 9999 9999 9999 9999 9999;").due(9, "far", 0).due(1, "lacks", 0);
        lead("9 1 9 9 9 9 9 9 9 9;").due(9, "far", 0).due(1, "lacks", 0);
    }

    private static void stands() {
        Run.about("STANDS: the n-th number (n 1 to 10 to the power of 15) in which F (1 to 9) isn't written");
        Run run = Run.free().due(2, "skip", 1, 1, false).due(1, "skip", 2, 1, false).due(1, "skip", 9, 1, false);
        run.due(9, "skip", 1, 8, false).due(20, "skip", 1, 9, false).due(8, "skip", 9, 8, false).due(10, "skip", 9, 9, false);
        run.due(88, "skip", 9, 80, false).due(100, "skip", 9, 81, false).due(99, "skip", 1, 80, false).due(200, "skip", 1, 81, false);
        for (int f = 1; f <= 9; f++) {
            run.due(inNines(MOST, f), "skip", f, MOST, false).due(inNines(MOST - 1, f), "skip", f, MOST - 1, false);
            run.illegal("skip", f, MOST + 1, false).illegal("skip", f, 0, false).due(f == 1 ? 2 : 1, "skip", f, 1, false);
        }
    }

    /** A number to the base of nine, its figures from f on one more. */
    private static long inNines(long n, int f) {
        long number = 0;
        for (char digit : Long.toString(n, 9).toCharArray()) {
            number = 10 * number + (digit - '0' >= f ? digit - '0' + 1 : digit - '0');
        }
        return number;
    }

    private static void which() {
        Run.about("WHICH it is, the other way round (none, if F is written in it).");
        Run run = Run.free().due(-1, "skip", 1, 1, true).due(1, "skip", 1, 2, true).due(-1, "skip", 9, 9, true);
        run.due(9, "skip", 9, 10, true).due(-1, "skip", 5, 50, true).due(-1, "skip", 5, 105, true).due(-1, "skip", 5, 1500, true);
        run.due(-1, "skip", 1, MOST, true).due(205891132094649L, "skip", 2, MOST, true).due(205891132094649L, "skip", 9, MOST, true);
        run.due(205891132094648L, "skip", 9, 888888888888888L, true).due(-1, "skip", 9, 999999999999999L, true);
        run.due(205891132094648L, "skip", 1, 999999999999999L, true).illegal("skip", 9, MOST + 1, true);
        run.due(1, "skip", 2, 1, true).illegal("skip", 2, 0, true);
    }

    private static void bothWays() {
        Run.about("STANDS (which false), WHICH (true; NONE: none).");
        Run run = Run.free();
        for (int f = 1; f <= 9; f++) {
            for (long number : new long[] {f, 10 * f, 10 * f + 1, 100 + f, MOST - 100 + f, MOST / 10 * f}) {
                run.due(-1, "skip", f, number, true);
            }
            for (long n : new long[] {1, 8, 9, 10, 80, 81, 82, 728, 729, 730, 205891132094648L, 205891132094640L}) {
                run.due(inNines(n, f), "skip", f, n, false).due(n, "skip", f, inNines(n, f), true);
            }
        }
    }

    private static void skipWrong() {
        Run.about("IllegalArgumentException: F, n (or the number) is not 1 to 10 to the power of 15.");
        Run run = Run.free();
        for (boolean which : new boolean[] {false, true}) {
            for (int f : new int[] {0, -1, 10, 11, Integer.MIN_VALUE, Integer.MAX_VALUE}) {
                run.illegal("skip", f, 5, which).illegal("skip", f, 0, which).illegal("skip", f, MOST, which);
            }
            for (long n : new long[] {0, -1, MOST + 1, Long.MIN_VALUE, Long.MAX_VALUE}) {
                run.illegal("skip", 1, n, which).illegal("skip", 9, n, which).illegal("skip", 0, n, which);
            }
        }
    }

    private static void whole() {
        Run.about("the fewest by which all LEAVES are there, the BOOK itself always being one of them; of as few the least as bits of COPIES");
        Run.of("plain 3;copy 0;").due(0, "whole", 0);
        Run.of("plain 3;gone 0 1;copy 0 1;copy 0 2;copy 0;").due(2, "whole", 0);
        // One whole copy is fewer than two; of two pairs the one with the least bits.
        Run.of("plain 4;gone 0 0 1;copy 0 0;copy 0 1;copy 0;").due(4, "whole", 0);
        Run.of("plain 4;gone 0 0 1;copy 0 0;copy 0 1;copy 0 1;copy 0 0;").due(3, "whole", 0);
        Run.of("plain 4;gone 0 0 1;copy 0 0 1;copy 0 0;copy 0 0;copy 0 1;copy 0 1;").due(10, "whole", 0);
        // What the copies miss else doesn't matter, as the book has it.
        Run.of("plain 4;gone 0 3;copy 0 0 1 2;").due(1, "whole", 0);
        Run.about("MADE WHOLE: COPIES, as bits (0: it is whole); NONE: it can't be.");
        Run run = Run.of("plain 2;odd 2;copy 1;copy 0 0;").due(0, "whole", 0).due(1, "tear", 0, 1).due(2, "whole", 0);
        run.due(2, "tear", 0, 0).due(-1, "whole", 0).due(0, "whole", 1).due(1, "tear", 1, 0).due(1, "whole", 1);
        run.due(1, "put").due(1, "put").due(2, "whole", 0).due(1, "put").due(0, "whole", 0);
        run.noSuch("whole", 2).noSuch("whole", -1).noSuch("whole", Integer.MAX_VALUE).noSuch("whole", Integer.MIN_VALUE);
    }

    private static void wholeNone() {
        Run.about("none, if it can't be");
        Run.of("plain 3;gone 0 1;").due(-1, "whole", 0);
        Run.of("plain 3;gone 0 1;copy 0 1;copy 0 1 2;").due(-1, "whole", 0);
        Run.of("plain 3;plain 3;gone 0 1;copy 1;").due(-1, "whole", 0).due(0, "whole", 1);
        Run.of("plain 3;gone 0 0 1 2;copy 0 0;copy 0 0;").due(-1, "whole", 0);
        Run.of("plain 3;gone 0 0 1 2;copy 0 0;copy 0 0;copy 0 1 2;").due(5, "whole", 0);
    }

    private static void wholeOfMany() {
        Run.about("COPIES (at most 8), each of a BOOK");
        StringBuilder text = new StringBuilder("plain 9;gone 0 0 1 2 3 4 5 6 7;");
        for (int copy = 0; copy < 8; copy++) {
            text.append("copy 0");
            for (int leaf = 0; leaf < 8; leaf++) {
                text.append(leaf == copy ? "" : " " + leaf);
            }
            text.append(';');
        }
        // Each copy has but one of the leaves that are gone: all eight are needed.
        Run.of(text.toString()).due(255, "whole", 0).due(0, "bought", 0).due(9, "tear", 0, 8).due(255, "whole", 0);
        String last = "plain 40;gone 0 39;" + "copy 0 39;".repeat(7) + "copy 0;";
        Run.of(last).due(128, "whole", 0).due(0, "bought", 0);
        Run run = Run.of("plain 2000;copy 0;").due(60, "seed", 0, 9, 60).due(1, "whole", 0).due(0, "bought", 0);
        run.due(1, "put").due(1, "whole", 0);
    }

    private static void bought() {
        Run.about("BOUGHT: LEAVES that none of all these has.");
        Run.of("plain 3;").due(0, "bought", 0);
        Run.of("plain 3;gone 0 0 1 2;").due(3, "bought", 0);
        Run.of("plain 3;gone 0 0 1 2;copy 0;").due(0, "bought", 0);
        Run.of("plain 3;gone 0 0 1;copy 0 0 2;copy 0 0 2;").due(1, "bought", 0);
        Run.of("plain 3;odd 3;gone 0 0 1;copy 1;copy 0 0 1;").due(2, "bought", 0).due(0, "bought", 1);
        Run.about("BOUGHT: how many LEAVES.");
        Run run = Run.of("plain 100;gone 0" + Run.row(0, 60) + ";copy 0" + Run.row(30, 60) + ";").due(30, "bought", 0);
        run.noSuch("bought", 1).noSuch("bought", -1).noSuch("bought", Integer.MAX_VALUE).noSuch("bought", Integer.MIN_VALUE);
    }

    private static void between() {
        Run.about("BETWEEN two numbers a and b (1 to 10 to the power of 15, a no more than b): how often a figure is printed in a, a + 1 .. b.");
        Run run = Run.free().due(1, "between", 1, 1, 1).due(0, "between", 1, 1, 0).due(1, "between", 1, 1, 10).due(0, "between", 1, 9, 0);
        run.due(1, "between", 1, 10, 0).due(2, "between", 1, 10, 1).due(11, "between", 1, 10, 10).due(4, "between", 1, 11, 1);
        run.due(11, "between", 1, 100, 0).due(21, "between", 1, 100, 1).due(20, "between", 1, 100, 9).due(192, "between", 1, 100, 10);
        run.due(2, "between", 100, 100, 0).due(5, "between", 99, 100, 10).due(0, "between", 10, 10, 2).due(16, "between", MOST, MOST, 10);
        run.due(15, "between", MOST, MOST, 0).due(1, "between", MOST, MOST, 1).due(15, "between", MOST - 1, MOST, 9);
        run.due(31, "between", MOST - 1, MOST, 10).due(1500000000000000L, "between", 1, MOST, 9);
        run.due(1500000000000001L, "between", 1, MOST, 1);
        long all = 16;
        long power = 1;
        for (int figures = 1; figures <= 15; figures++) {
            all += 9 * power * figures;
            power *= 10;
        }
        run.due(all, "between", 1, MOST, 10);
    }

    private static void betweenWrong() {
        Run.about("BETWEEN. NoSuchElementException: no such figure (0 to 10). IllegalArgumentException (behind that): a, b.");
        Run run = Run.free();
        for (int figure : new int[] {-1, 11, Integer.MIN_VALUE, Integer.MAX_VALUE}) {
            run.noSuch("between", 1, 2, figure).noSuch("between", 2, 1, figure).noSuch("between", 0, 1, figure);
            run.noSuch("between", 1, MOST + 1, figure);
        }
        for (long no : new long[] {0, -1, MOST + 1, Long.MIN_VALUE, Long.MAX_VALUE}) {
            run.illegal("between", no, MOST, 0).illegal("between", 1, no, 10).illegal("between", no, no, 5);
        }
        run.illegal("between", 2, 1, 0).illegal("between", MOST, MOST - 1, 10).illegal("between", MOST, 1, 1);
        run.due(0, "between", 2, 2, 1).due(1, "between", 1, 2, 1);
    }
}
