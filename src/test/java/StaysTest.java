import java.util.function.UnaryOperator;

/** Behind a call that is refused, that throws, or that only asks, all else is as it was. */
public final class StaysTest {
    private static final int LEAST = Integer.MIN_VALUE;
    private static final int MOST = Integer.MAX_VALUE;
    private static final long MOST_SUM = 1000000000000000000L;
    private static final long MOST_NUMBER = 1000000000000000L;

    public static void main(String[] args) {
        newObject();
        asked();
        askedOfSums();
        noSuchBook();
        noSuchElse();
        illegal();
        tapeTooShort();
        tapeFull();
        faults();
        tearRefused();
        sheetRefused();
        seedRefused();
        fullBook();
        addRefused();
        sixtySums();
        stickRefused();
        twentyStuck();
        nothingToUndo();
        spent();
        noneIsLeast();
        noImage();
        Run.end("StaysTest");
    }

    /** On busy twins, and on twins of new objects where that is wanted. */
    private static void stays(UnaryOperator<Twins> calls) {
        calls.apply(Twins.busy()).alike();
    }

    private static void newObject() {
        Run.about("NoSuchElementException: no such BOOK (as everywhere), what.");
        Twins twins = new Twins().noSuch("tear", 0, 0).noSuch("sheet", 0, 0).noSuch("add", 0, 0).noSuch("seed", 0, 1, 0);
        twins.noSuch("stick", 0, 0).noSuch("shares", 0, 2).noSuch("least", 0, 0).noSuch("child", 0).noSuch("torn", 0);
        twins.due(-1, "put").due(-1, "wrong").due(-1, "loosen").due(0, "restore").illegal("shelf", 1).alike();
    }

    private static void asked() {
        Run.about("Nothing is promised beyond the answers and state changes described above");
        stays(x -> x.due(4, "count", 2).due(3, "count", 3).due(2, "count", 9).due(1, "count", 6).due(1, "count", 7).due(1, "count", 8));
        stays(x -> x.due(-1, "fault").due(3, "count", 0).due(1, "book", 1, 0).due(1, "isThere", 0, 1).due(9, "number", 2, 3)
                .due(3, "page", 2, 9).due(33, "sum", 0));
        stays(x -> x.due(6, "figures", 0, 10).due(2, "whole", 1).due(0, "bought", 0).due(1, "index", 0, 12).due(-1, "index", 2, 5));
        stays(x -> x.due(18, "read", 1, 1, 8, 1, 0, false).due(4, "read", 1, 1, 8, 1, 0, true).due(0, "child", 0).due(2, "torn", 0));
    }

    private static void askedOfSums() {
        Run.about("Nothing is promised beyond the answers and state changes described above");
        stays(x -> x.due(2, "fits", 19861, -1).due(9, "leaf", 19861, 0).due(1, "several", 3, 2, -1).due(2, "ways", 18, 2, 4)
                .due(6, "way", 18, 2, 4, 1).due(4, "sewn", 18).due(5, "street", 20, 0, true).due(1, "said", 19861, 10, 485)
                .due(0, "tells", 19861).due(2, "skip", 1, 1, false).due(1, "skip", 1, 2, true).due(1, "between", 1, 10, 0));
        stays(x -> x.due(8, "far", 0).due(9, "lacks", 0).due(10, "far", 9).due(9, "lacks", 9));
    }

    private static void noSuchBook() {
        Run.about("NoSuchElementException: no such BOOK (as everywhere), what.");
        for (int book : new int[] {3, -1, MOST, LEAST}) {
            stays(x -> x.noSuch("book", book, 0).noSuch("isThere", book, 0).noSuch("number", book, 1).noSuch("page", book, 1)
                    .noSuch("sum", book).noSuch("figures", book, 1).noSuch("tear", book, 0).noSuch("sheet", book, 0)
                    .noSuch("add", book, 30).noSuch("whole", book).noSuch("bought", book).noSuch("index", book, 1)
                    .noSuch("seed", book, 1, 1).noSuch("stick", book, 0).noSuch("read", book, 1, 2, 1, 0, true)
                    .noSuch("shares", book, 2).noSuch("least", book, 5));
        }
    }

    private static void noSuchElse() {
        Run.about("NoSuchElementException: also no such LEAF (as everywhere).");
        for (int no : new int[] {-1, 5, MOST, LEAST}) {
            stays(x -> x.noSuch("isThere", 0, no).noSuch("tear", 0, no).noSuch("stick", 0, no).noSuch("sheet", 0, no)
                    .noSuch("book", 0, no).noSuch("count", no == 5 ? 20 : no).noSuch("number", 0, no == 5 ? 11 : no)
                    .noSuch("figures", 0, no == 5 ? 11 : no).noSuch("child", no).noSuch("torn", no)
                    .noSuch("read", 0, no == 5 ? 11 : no, 1, 1, 0, true).noSuch("read", 0, 1, no == 5 ? 11 : no, 1, 0, true));
        }
        Run.about("NoSuchElementException (ahead): no such SHEET (LEAVES by 2, cut down, are there).");
        stays(x -> x.noSuch("sheet", 1, 2).noSuch("sheet", 0, 2).noSuch("sheet", 2, 1).noSuch("sheet", 1, -1));
        Run.about("NoSuchElementException: there is none.");
        stays(x -> x.noSuch("fits", 1, 0).noSuch("fits", 3, -2).noSuch("leaf", 3, -1).noSuch("leaf", 3, 3).noSuch("several", 1, 1, 0)
                .noSuch("way", 3, 1, 2, 1).noSuch("street", 5, 2, true).noSuch("said", 3, 11, 0).noSuch("between", 1, 2, 11));
    }

    private static void illegal() {
        Run.about("IllegalArgumentException (behind NoSuchElementException): k.");
        for (int no : new int[] {-1, 61, MOST, LEAST}) {
            stays(x -> x.illegal("seed", 0, 1, no).illegal("several", 3, no, -1).illegal("ways", 3, no, 2).illegal("ways", 3, 1, no)
                    .illegal("way", 3, no, 2, 0).illegal("way", 3, 1, no, 0));
        }
        Run.about("IllegalArgumentException (behind NoSuchElementException): CHILDREN.");
        stays(x -> x.illegal("shares", 0, 1).illegal("shares", 0, 5).illegal("shares", 2, 0).illegal("shares", 2, LEAST));
        Run.about("IllegalArgumentException (behind NoSuchElementException): S is below 0, or above 10 to the power of 18.");
        stays(x -> x.illegal("least", 0, -1).illegal("least", 2, MOST_SUM + 1).illegal("least", 2, Long.MIN_VALUE));
        Run.about("IllegalArgumentException (behind that): the second PAGE is below the first, so manieth, BUZZ (0, 2 to 9).");
        stays(x -> x.illegal("read", 0, 2, 1, 1, 0, true).illegal("read", 0, 1, 2, 0, 0, true).illegal("read", 0, 1, 2, 101, 0, true)
                .illegal("read", 0, 1, 2, 1, 1, true).illegal("read", 0, 1, 2, 1, 10, false));
        Run.about("IllegalArgumentException (ahead): S (as everywhere, ahead of all else but the side of a STREET).");
        for (long no : new long[] {0, -1, MOST_SUM + 1}) {
            stays(x -> x.illegal("fits", no, -1).illegal("leaf", no, 0).illegal("several", no, 1, -1).illegal("ways", no, 1, 2)
                    .illegal("way", no, 1, 2, 0).illegal("sewn", no).illegal("street", no, 0, true).illegal("said", no, 1, 1)
                    .illegal("tells", no));
        }
        Run.about("IllegalArgumentException: F, n (or the number) is not 1 to 10 to the power of 15.");
        stays(x -> x.illegal("skip", 0, 5, true).illegal("skip", 10, 5, false).illegal("skip", 1, 0, true).illegal("far", -1)
                .illegal("skip", 1, MOST_NUMBER + 1, false).illegal("between", 2, 1, 0).illegal("between", 0, 1, 0)
                .illegal("between", 1, MOST_NUMBER + 1, 0).illegal("far", 100000000).illegal("lacks", -1).illegal("lacks", 100000000));
    }

    private static void tapeTooShort() {
        Run.about("IllegalArgumentException: the tape has not so many, n below 0 (nothing changes).");
        stays(x -> x.due(40, "count", 4).illegal("shelf", 41).illegal("shelf", -1).illegal("shelf", 500).illegal("shelf", 501)
                .illegal("shelf", MOST).illegal("shelf", LEAST).due(40, "count", 4));
        Twins empty = Twins.busy().both("shelf", 20).illegal("shelf", 1).illegal("shelf", 20);
        empty.alike();
    }

    private static void tapeFull() {
        Run.about("NONE, and none come, if it would have more than 500");
        Twins twins = Twins.busy().feed(" ".repeat(440)).feed("gone 0 0;sewn 2;x   ").due(-1, "feed", 0, 0, 0, 0, 0);
        twins.due(-1, "feed", -1, -1, -1, -1, -1).due(500, "count", 4).alike();
        new Twins().feed(" ".repeat(480)).feed("plain 3;gone 0 0 1;;").due(-1, "feed", 0, 0, 0, 0, 0).alike();
    }

    private static void faults() {
        Run.about("or the FAULT (all else stays, but STATUS)");
        String all = "even 2;told 4 by leaves;gone 0 0;copy 1 1;lead 0 0 0 0 0 0 0 0 0 0;";
        Object[][] faults = {{1, 0, "x"}, {1, all.length(), all + "x"}, {1, all.length() - 1, all.substring(0, all.length() - 1)},
            {2, all.length() + 6, all + "plain 0;"}, {2, all.length() + 13, all + "told 2 by 1+(12345);"},
            {3, all.length() + 5, all + "gone 2 0;"}, {3, all.length() + 10, all + "told 2 by word;"},
            {4, all.length() + 7, all + "gone 0 0;"}, {5, all.length(), all + "lead"}};
        for (Object[] fault : faults) {
            Twins twins = emptied(Twins.busy());
            twins.fault((Integer) fault[0], (Integer) fault[1], (String) fault[2]).due(0, "count", 4).alike();
        }
        Twins twice = emptied(Twins.busy()).fault(1, 0, "x").fault(2, 6, "plain 0;").fault(1, all.length(), all + "x");
        twice.alike();
    }

    /** The same with an empty tape: a text with a fault leaves all but that. */
    private static Twins emptied(Twins twins) {
        return twins.both("shelf", 1);
    }

    private static void tearRefused() {
        Run.about("NONE (STATUS 1): it is GONE, 60 are.");
        stays(x -> x.refused(1, "tear", 0, 4).refused(1, "tear", 1, 0).refused(1, "tear", 1, 3).refused(1, "tear", 2, 0));
    }

    private static void sheetRefused() {
        Run.about("NONE (STATUS 1): the BOOK has an odd number of LEAVES, one of both is GONE, 59 or more are.");
        stays(x -> x.refused(1, "sheet", 0, 0).refused(1, "sheet", 0, 1).refused(1, "sheet", 1, 0).refused(1, "sheet", 2, 0));
        Twins half = new Twins().text("sewn 4;gone 0 0;").both("tear", 0, 2).refused(1, "sheet", 0, 0).refused(1, "sheet", 0, 1);
        half.alike();
    }

    private static void seedRefused() {
        Run.about("NONE (STATUS 1): they can't be. IllegalArgumentException (behind NoSuchElementException): k.");
        stays(x -> x.refused(1, "seed", 0, 1, 5).refused(1, "seed", 0, 1, 60).refused(1, "seed", 1, 7, 3).refused(1, "seed", 2, 7, 2));
        // None is torn, and nothing counted, where none is wanted.
        stays(x -> x.due(2, "seed", 0, 1, 0).due(2, "seed", 1, 1, 0).due(2, "seed", 2, 9, 0));
    }

    private static void fullBook() {
        Run.about("LEAVES that are GONE (at most 60 of a BOOK)");
        String text = "sewn 124;odd 3;gone 0" + Run.row(0, 57) + ";";
        new Twins().text(text).both("tear", 0, 57).both("image").both("tear", 0, 58).refused(1, "sheet", 0, 60)
                .refused(1, "seed", 0, 1, 2).alike();
        new Twins().text(text).both("sheet", 0, 60).both("image").both("tear", 0, 58).refused(1, "tear", 0, 59)
                .refused(1, "sheet", 0, 59).refused(1, "seed", 0, 1, 1).due(60, "seed", 0, 1, 0).alike();
    }

    private static void addRefused() {
        Run.about("False, too (STATUS 2; it isn't ADDED): 60 are, there are no more PAGES, sums of another BOOK were ADDED.");
        stays(x -> x.refused(2, "add", 0, 1).refused(2, "add", 1, 30).refused(2, "add", 0, 10));
        Twins ended = Twins.busy().both("add", 2, 30).both("add", 2, 45).both("add", 2, 63).refused(2, "add", 2, 84);
        ended.refused(2, "add", 2, 63).alike();
    }

    private static void sixtySums() {
        Run.about("False, too (STATUS 2; it isn't ADDED): 60 are");
        Twins full = new Twins().text("plain 31;plain 3;");
        for (int page = 1; page <= 60; page++) {
            full.both("add", 0, page * (page + 1) / 2);
        }
        full.both("image").refused(2, "add", 0, 61 * 31).refused(2, "add", 0, 5).refused(2, "add", 1, 1).alike();
    }

    private static void stickRefused() {
        Run.about("NONE (STATUS 3): there are 20, it is the last LEAF, one is GONE, one of both PAGES is hidden already.");
        stays(x -> x.refused(3, "stick", 0, 4).refused(3, "stick", 0, 3).refused(3, "stick", 0, 1).refused(3, "stick", 1, 0)
                .refused(3, "stick", 2, 0).refused(3, "stick", 2, 1).refused(3, "stick", 2, 2));
    }

    private static void twentyStuck() {
        Run.about("STUCK (at most 20 of all BOOKS)");
        Twins full = new Twins().text("plain 19;plain 4;");
        for (int i = 0; i < 20; i++) {
            full.both("stick", i < 18 ? 0 : 1, i < 18 ? i : i - 18);
        }
        full.both("image").refused(3, "stick", 1, 2).refused(3, "stick", 0, 0).refused(3, "stick", 0, 18).alike();
    }

    private static void nothingToUndo() {
        Run.about("NONE: nothing can be.");
        new Twins().text("plain 3;gone 0 1;copy 0;").both("stick", 0, 0).due(-1, "put").due(-1, "wrong").due(-1, "loosen").alike();
        Run.about("False: there is none.");
        new Twins().text("plain 3;gone 0 1;").both("tear", 0, 0).both("add", 0, 5).both("shares", 0, 2).due(0, "restore").alike();
    }

    private static void spent() {
        Run.about("-2: SPENT (what is kept stays)");
        Twins many = new Twins().text("plain 31;plain 11;odd 3;").both("shares", 2, 2).both("least", 2, 20).both("image");
        many.due(-2, "shares", 0, 2).due(-2, "shares", 1, 4).due(-2, "least", 0, 5).due(-2, "least", 0, 0).alike();
        Run.about("-2: SPENT (in both what is kept stays)");
        new Twins().text("plain 31;odd 5;").due(-2, "shares", 0, 2).due(-2, "least", 0, 5).noSuch("child", 0).noSuch("torn", 0).alike();
    }

    private static void noneIsLeast() {
        Run.about("NONE: none; -2: SPENT (in both what is kept stays).");
        stays(x -> x.due(-1, "least", 0, 1).due(-1, "least", 2, 1).due(-1, "least", 1, MOST_SUM).due(-1, "least", 0, 999));
    }

    private static void noImage() {
        Run.about("What was ADDED, STUCK, SHARED, LEAST TORN, the image are gone.");
        Twins twins = emptied(Twins.busy()).text("plain 3;odd 2;").due(0, "restore").noSuch("child", 0).noSuch("torn", 0).due(-1, "put");
        twins.due(-1, "wrong").due(-1, "loosen").alike();
    }
}
