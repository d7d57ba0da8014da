import java.util.Arrays;

/** Promises 25 and 26: how far one can number with the lead, and back, and what is short then. */
public final class LeadTest {
    public static void main(String[] args) {
        lead(new int[] {9, 9, 2, 9, 9, 9, 9, 9, 9, 9});
        lead(new int[] {0, 0, 0, 0, 0, 0, 0, 0, 0, 0});
        lead(new int[] {0, 5, 5, 5, 5, 5, 5, 5, 5, 5});
        lead(new int[] {3, 7, 1, 4, 9, 2, 8, 6, 5, 0});
        lead(new int[] {500, 499, 400, 300, 310, 320, 333, 298, 299, 301});
        lead(new int[] {9999, 9999, 9999, 9999, 9999, 9999, 9999, 9999, 9999, 9999});
        lead(new int[] {9999, 20, 9999, 9999, 9999, 9999, 9999, 9999, 9999, 9999});
        lead(new int[] {10, 20, 20, 20, 20, 20, 20, 20, 20, 20});
        lead(new int[] {9, 20, 20, 20, 20, 20, 20, 20, 20, 20});
        lead(new int[] {1, 1, 1, 1, 1, 1, 1, 1, 1, 9999});
        withoutLead();
        Run.end("LeadTest");
    }

    private static void lead(int[] lead) {
        Run.about("SHORT of which figure one is then: the least one of which there isn't enough left for the next number; none, if BACK is 1.");
        StringBuilder text = new StringBuilder("lead");
        for (int many : lead) {
            text.append(' ').append(many);
        }
        Run run = Run.of(text + ";");
        forth(run, lead);
        for (int from : new int[] {1, 2, 7, 9, 10, 11, 12, 20, 99, 100, 101, 110, 1000, 1999, 12345, 99999999, 90000000,
            10000000, 33333333, 98765432}) {
            back(run, lead, from);
        }
    }

    private static void forth(Run run, int[] lead) {
        int[] left = lead.clone();
        int number = 1;
        while (shortOf(left, number) < 0) {
            use(left, number);
            number++;
        }
        run.due(number - 1, "far", 0).due(shortOf(left, number), "lacks", 0);
    }

    private static void back(Run run, int[] lead, int from) {
        int[] left = lead.clone();
        int number = from;
        while (number > 0 && shortOf(left, number) < 0) {
            use(left, number);
            number--;
        }
        run.due(number + 1, "far", from).due(number == 0 ? -1 : shortOf(left, number), "lacks", from);
    }

    private static int shortOf(int[] left, int number) {
        int[] after = left.clone();
        use(after, number);
        for (int figure = 0; figure < 10; figure++) {
            if (after[figure] < 0) {
                return figure;
            }
        }
        return -1;
    }

    private static void use(int[] left, int number) {
        for (char figure : Integer.toString(number).toCharArray()) {
            left[figure - '0']--;
        }
    }

    private static void withoutLead() {
        int[] hundred = new int[10];
        Arrays.fill(hundred, 100);
        for (Run run : new Run[] {new Run(), Run.of("plain 3;")}) {
            forth(run, hundred);
            back(run, hundred, 150);
            back(run, hundred, 99999999);
            back(run, hundred, 300);
        }
        Run run = Run.of("lead 1 1 1 1 1 1 1 1 1 1;").text(0, "plain 1;");
        forth(run, hundred);
        for (int from : new int[] {-1, 100000000, Integer.MAX_VALUE, Integer.MIN_VALUE}) {
            run.illegal("far", from).illegal("lacks", from);
        }
    }
}
