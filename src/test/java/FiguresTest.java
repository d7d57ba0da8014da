/** Promises 27 and 33: numbers without a figure, and how often a figure is printed between two numbers. */
public final class FiguresTest {
    private static final long MOST = 1000000000000000L;

    public static void main(String[] args) {
        for (int f = 1; f <= 9; f++) {
            standing(f);
            standingFar(f);
        }
        for (int figure = 0; figure <= 10; figure++) {
            between(figure);
            betweenFar(figure);
        }
        wrongInputs();
        Run.end("FiguresTest");
    }

    private static void standing(int f) {
        Run run = Run.free();
        int n = 0;
        for (int number = 1; number <= 3000; number++) {
            boolean without = Integer.toString(number).indexOf('0' + f) < 0;
            n += without ? 1 : 0;
            run.due(without ? n : -1, "skip", f, number, true);
            if (without) {
                run.due(number, "skip", f, n, false);
            }
        }
    }

    private static void standingFar(int f) {
        Run run = Run.free();
        for (long n = 5; n <= MOST; n = n * 7 + f) {
            String nines = Long.toString(n, 9);
            StringBuilder number = new StringBuilder();
            for (char digit : nines.toCharArray()) {
                number.append((char) (digit >= '0' + f ? digit + 1 : digit));
            }
            run.due(Long.parseLong(number.toString()), "skip", f, n, false);
            if (Long.parseLong(number.toString()) <= MOST) {
                run.due(n, "skip", f, Long.parseLong(number.toString()), true);
            }
        }
        run.due(f == 1 ? -1 : power(9, 15), "skip", f, MOST, true);
        run.due(1, "skip", f, f == 1 ? 2 : 1, true).due(f == 1 ? 2 : 1, "skip", f, 1, false);
    }

    private static long power(long base, int times) {
        long power = 1;
        for (int i = 0; i < times; i++) {
            power *= base;
        }
        return power;
    }

    private static int printed(int figure, long number) {
        int many = 0;
        for (char one : Long.toString(number).toCharArray()) {
            many += figure == 10 || one - '0' == figure ? 1 : 0;
        }
        return many;
    }

    private static void between(int figure) {
        Run run = Run.free();
        for (int a = 1; a <= 1300; a += a < 120 ? 7 : 131) {
            int many = 0;
            for (int b = a; b <= 2300; b++) {
                many += printed(figure, b);
                if (b < a + 30 || b % 37 == 0 || b % 100 < 2) {
                    run.due(many, "between", a, b, figure);
                }
            }
        }
    }

    private static void betweenFar(int figure) {
        Run run = Run.free();
        for (long a = 1; a < MOST; a = a * 11 + 9) {
            int many = 0;
            for (long b = a; b < a + 40; b++) {
                many += printed(figure, b);
            }
            run.due(many, "between", a, a + 39, figure);
        }
        // Of 1 to 10^15 - 1 each figure but 0 is printed 15 * 10^14 times, 0 as often less the leading ones.
        long each = 15 * power(10, 14);
        long leading = (power(10, 15) - 1) / 9;
        long all = 10 * each - leading;
        long want = figure == 10 ? all : figure == 0 ? each - leading : each;
        run.due(want, "between", 1, MOST - 1, figure).due(want + printed(figure, MOST), "between", 1, MOST, figure);
        run.due(printed(figure, MOST), "between", MOST, MOST, figure);
    }

    private static void wrongInputs() {
        Run run = Run.free();
        for (int f : new int[] {0, 10, -1, Integer.MAX_VALUE, Integer.MIN_VALUE}) {
            run.illegal("skip", f, 5, false).illegal("skip", f, 5, true);
        }
        for (long n : new long[] {0, -1, MOST + 1, Long.MAX_VALUE, Long.MIN_VALUE}) {
            run.illegal("skip", 3, n, false).illegal("skip", 3, n, true);
            run.illegal("between", n, MOST, 3).illegal("between", 1, n, 3).illegal("between", n, n, 3);
            run.noSuch("between", n, MOST, 11).noSuch("between", 1, n, -1).noSuch("between", n, n, Integer.MIN_VALUE);
        }
        run.illegal("between", 6, 5, 3).noSuch("between", 6, 5, 11).noSuch("between", 5, 6, Integer.MAX_VALUE);
        run.due(1, "between", 5, 5, 5).due(0, "between", 5, 5, 0).due(1, "between", 5, 5, 10);
    }
}
