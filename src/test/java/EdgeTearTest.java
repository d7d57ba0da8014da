/** The document's sentences on promises 12 to 16, 31, 41 and 42: tearing, putting back, adding, seeds, images. */
public final class EdgeTearTest {
    private static final int LEAST = Integer.MIN_VALUE;
    private static final int MOST = Integer.MAX_VALUE;

    public static void main(String[] args) {
        tear();
        tearRefused();
        sheetOf();
        sheet();
        sheetRefused();
        noSheet();
        leafOrSheet();
        put();
        putNone();
        sheetAtOnce();
        add();
        addRefused();
        addNoBook();
        sixtySums();
        wrong();
        seed();
        seedDraws();
        seedRefused();
        seedWrong();
        image();
        imageInPlace();
        restore();
        status();
        Run.end("EdgeTearTest");
    }

    private static void tear() {
        Run.about("A LEAF is TORN out: how many are GONE.");
        Run run = Run.of("plain 3;plain 1;plain 2000;gone 0 1;");
        run.due(2, "tear", 0, 0).due(3, "tear", 0, 2).due(0, "sum", 0).due(1, "tear", 1, 0).due(0, "sum", 1);
        run.due(1, "tear", 2, 0).due(2, "tear", 2, 1999).due(0, "isThere", 2, 1999).due(1, "isThere", 2, 1998);
        run.due(2, "book", 2, 2).due(5, "count", 2).due(0, "count", 6);
        run.noSuch("tear", 0, -1).noSuch("tear", 0, 3).noSuch("tear", 1, 1).noSuch("tear", 2, 2000).noSuch("tear", 2, 2015);
        run.noSuch("tear", 3, 0).noSuch("tear", -1, 0).noSuch("tear", MOST, 0).noSuch("tear", LEAST, LEAST).noSuch("tear", 0, MOST);
        run.noSuch("tear", 0, LEAST).due(5, "count", 2).due(0, "count", 6);
    }

    private static void tearRefused() {
        Run.about("NONE (STATUS 1): it is GONE, 60 are.");
        Run run = Run.of("plain 62;plain 62;gone 0" + Run.row(0, 59) + ";").due(-1, "tear", 0, 0).due(1, "count", 6);
        run.due(60, "tear", 0, 60).due(-1, "tear", 0, 60).due(2, "count", 6).due(-1, "tear", 0, 61).due(3, "count", 6);
        run.due(60, "book", 0, 2).due(1, "isThere", 0, 61).due(1, "count", 2).due(119 + 120 + 123 + 124, "sum", 0);
        // Another book has sixty of its own; and one that is put back makes room.
        run.due(1, "tear", 1, 61).due(1, "put").due(1, "put").due(60, "tear", 0, 61).due(-1, "tear", 0, 60).due(4, "count", 6);
    }

    private static void sheetOf() {
        Run.about("A SHEET of a BOOK of an even number L of LEAVES: LEAF i and LEAF L less 1 less i (SHEETS 0 on by the less one).");
        Run run = Run.of("sewn 6;plain 2;roman 1 4;").due(2, "sheet", 0, 0).due(0, "isThere", 0, 0).due(0, "isThere", 0, 5);
        run.due(1, "isThere", 0, 1).due(1, "isThere", 0, 4).due(4, "sheet", 0, 2).due(0, "isThere", 0, 2).due(0, "isThere", 0, 3);
        run.due(3 + 4 + 9 + 10, "sum", 0).due(2, "sheet", 1, 0).due(0, "sum", 1).due(2, "sheet", 2, 1).due(1 + 6 + 7, "sum", 2);
        run = Run.of("sewn 2000;").due(2, "sheet", 0, 999).due(0, "isThere", 0, 999).due(0, "isThere", 0, 1000);
        run.due(4, "sheet", 0, 0).due(0, "isThere", 0, 1999);
    }

    private static void sheet() {
        Run.about("A SHEET is TORN out: how many LEAVES are GONE.");
        Run run = Run.of("sewn 4;gone 0 0;").due(3, "sheet", 0, 1).due(3, "book", 0, 2).due(1, "count", 2).due(15, "sum", 0);
        run = Run.of("odd 122;gone 0" + Run.row(0, 58) + ";").due(60, "sheet", 0, 58).due(60, "book", 0, 2).due(0, "count", 6);
        run.due(2, "put").due(58, "book", 0, 2).due(60, "sheet", 0, 60).due(0, "isThere", 0, 61).due(0, "count", 6);
    }

    private static void sheetRefused() {
        Run.about("NONE (STATUS 1): the BOOK has an odd number of LEAVES, one of both is GONE, 59 or more are.");
        Run run = Run.of("plain 5;plain 3;sewn 4;sewn 4;gone 2 0;gone 3 3;").due(-1, "sheet", 0, 0).due(-1, "sheet", 0, 1);
        run.due(2, "count", 6).due(-1, "sheet", 1, 0).due(3, "count", 6).due(-1, "sheet", 2, 0).due(4, "count", 6);
        run.due(-1, "sheet", 3, 0).due(5, "count", 6).due(3, "sheet", 2, 1).due(-1, "sheet", 2, 1).due(6, "count", 6);
        run.due(1, "isThere", 2, 3).due(1, "isThere", 3, 0).due(0, "book", 0, 2).due(0, "book", 1, 2).due(1, "count", 2);
        Run full = Run.of("sewn 124;gone 0" + Run.row(0, 59) + ";").due(-1, "sheet", 0, 60).due(1, "count", 6);
        full.due(59, "book", 0, 2).due(1, "isThere", 0, 60).due(1, "isThere", 0, 63).due(60, "tear", 0, 59);
        full.due(-1, "sheet", 0, 60).due(2, "count", 6).due(60, "book", 0, 2).due(1, "count", 2);
    }

    private static void noSheet() {
        Run.about("NoSuchElementException (ahead): no such SHEET (LEAVES by 2, cut down, are there).");
        Run run = Run.of("plain 1;plain 2;plain 3;sewn 4;plain 5;sewn 2000;gone 3 0 1 2 3;");
        run.noSuch("sheet", 0, 0).noSuch("sheet", 1, 1).noSuch("sheet", 2, 1).noSuch("sheet", 3, 2).noSuch("sheet", 4, 2);
        run.noSuch("sheet", 5, 1000).noSuch("sheet", 5, -1).noSuch("sheet", 3, -1).noSuch("sheet", 4, -1).noSuch("sheet", 0, -1);
        run.noSuch("sheet", 5, MOST).noSuch("sheet", 5, LEAST).noSuch("sheet", 6, 0).noSuch("sheet", -1, 0).noSuch("sheet", MOST, 0);
        run.due(0, "count", 6).due(-1, "sheet", 2, 0).due(-1, "sheet", 3, 1).due(-1, "sheet", 4, 1).due(2, "sheet", 1, 0);
        run.due(2, "sheet", 5, 999).due(3, "count", 6);
    }

    private static void leafOrSheet() {
        Run.about("LEAVES are TORN out (a LEAF, or a SHEET at once, if both its LEAVES are there)");
        Run run = Run.of("even 4;").due(1, "tear", 0, 3).due(-1, "sheet", 0, 0).due(1, "isThere", 0, 0).due(3, "sheet", 0, 1);
        run.due(4, "tear", 0, 0).due(-1, "sheet", 0, 0).due(-1, "sheet", 0, 1).due(0, "sum", 0).due(3, "count", 6);
        run.due(1, "put").due(2, "put").due(1, "put").due(2, "sheet", 0, 0).due(4, "sheet", 0, 1).due(2, "count", 2);
    }

    private static void put() {
        Run.about("What was TORN last is PUT back (what the TEXT told isn't): how many LEAVES.");
        Run run = Run.of("plain 4;plain 4;gone 0 0;gone 1 1;").due(2, "tear", 0, 1).due(2, "tear", 1, 0).due(3, "tear", 0, 2);
        run.due(1, "put").due(1, "isThere", 0, 2).due(0, "isThere", 0, 1).due(0, "isThere", 1, 0);
        run.due(1, "put").due(1, "isThere", 1, 0).due(0, "isThere", 0, 1).due(1, "put").due(1, "isThere", 0, 1);
        run.due(-1, "put").due(0, "isThere", 0, 0).due(0, "isThere", 1, 1).due(1, "book", 0, 2).due(1, "book", 1, 2);
        // What is put back can be torn anew, and is the last then.
        run.due(2, "tear", 0, 3).due(3, "tear", 0, 1).due(1, "put").due(3, "tear", 0, 2).due(1, "put").due(1, "put").due(-1, "put");
    }

    private static void putNone() {
        Run.about("NONE: nothing can be.");
        Run run = new Run().due(-1, "put").text(0, "plain 3;gone 0 1;").due(-1, "put").due(1, "book", 0, 2);
        run.due(-1, "tear", 0, 1).due(-1, "put").due(2, "tear", 0, 0).due(1, "put").due(-1, "put").due(-1, "put");
        run.due(1, "count", 6).due(0, "count", 2).due(2, "tear", 0, 0).text(0, "plain 3;").due(-1, "put");
    }

    private static void sheetAtOnce() {
        Run.about("and the last that was TORN is PUT back, one by one (a SHEET at once)");
        Run run = Run.of("plain 4;").due(1, "tear", 0, 0).due(3, "sheet", 0, 1).due(4, "tear", 0, 3).due(3, "count", 2);
        run.due(1, "put").due(2, "count", 2).due(2, "put").due(1, "count", 2).due(1, "isThere", 0, 1).due(1, "isThere", 0, 2);
        run.due(0, "isThere", 0, 0).due(1, "put").due(0, "count", 2).due(-1, "put");
        // Two leaves of a sheet that are torn one by one come back one by one.
        run.due(1, "tear", 0, 1).due(2, "tear", 0, 2).due(1, "put").due(0, "isThere", 0, 1).due(1, "put");
    }

    private static void add() {
        Run.about("ADDED: the next sum of a BOOK's first PAGES: whether it is right.");
        Run run = Run.of("odd 2;gone 0 0;").due(1, "add", 0, 1).due(1, "add", 0, 4).due(0, "add", 0, 10).due(1, "add", 0, 16);
        run.due(4, "count", 3).due(0, "count", 7).due(2, "wrong");
        run.due(0, "add", 0, 0).due(0, "add", 0, Long.MAX_VALUE).due(0, "add", 0, Long.MIN_VALUE).due(0, "add", 0, -16).due(0, "wrong");
        Run.about("(of what was printed, whatever is GONE)");
        run.due(2, "tear", 0, 1).due(1, "add", 0, 1).due(1, "add", 0, 4).due(1, "put").due(1, "add", 0, 9).due(-1, "wrong");
    }

    private static void addRefused() {
        Run.about("False, too (STATUS 2; it isn't ADDED): 60 are, there are no more PAGES, sums of another BOOK were ADDED.");
        Run run = Run.of("plain 31;plain 30;plain 1;roman 99 1;");
        for (int page = 1; page <= 60; page++) {
            run.due(1, "add", 0, page * (page + 1) / 2).due(page, "count", 3);
        }
        run.due(0, "add", 0, 61 * 62 / 2).due(60, "count", 3).due(1, "count", 7).due(0, "add", 1, 1).due(2, "count", 7);
        run.due(60, "count", 3).due(-1, "wrong").due(0, "count", 3);
        run.due(1, "add", 2, 1).due(1, "add", 2, 3).due(2, "count", 7).due(0, "add", 2, 6).due(0, "add", 2, 3).due(4, "count", 7);
        run.due(2, "count", 3).due(0, "add", 3, 0).due(0, "add", 0, 1).due(6, "count", 7).due(-1, "wrong");
        run.due(1, "add", 3, 0).due(1, "add", 3, 0).due(0, "add", 3, 0).due(7, "count", 7).due(0, "add", 2, 1).due(8, "count", 7);
        // What is refused is neither a wrong sum nor one of another book.
        run.due(-1, "wrong").due(1, "add", 2, 1).due(0, "add", 1, 5).due(1, "add", 2, 3).due(-1, "wrong");
        run.due(0, "add", 1, 5).due(0, "add", 2, 1).due(1, "add", 1, 3).due(0, "wrong");
    }

    private static void addNoBook() {
        Run.about("NoSuchElementException (ahead): no such BOOK.");
        Run run = Run.of("plain 1;").due(1, "add", 0, 1).noSuch("add", 1, 1).noSuch("add", -1, 3).noSuch("add", MOST, 3);
        run.noSuch("add", LEAST, 3).due(0, "count", 7).due(1, "count", 3).due(1, "add", 0, 3).noSuch("add", 1, 6);
        run.due(0, "add", 0, 6).due(1, "count", 7).due(-1, "wrong");
    }

    private static void sixtySums() {
        Run.about("one after another (at most 60): the first wrong one");
        Run run = Run.of("told 31 by 1;");
        for (int page = 1; page <= 59; page++) {
            run.due(page == 58 ? 0 : 1, "add", 0, page == 58 ? 57 : page);
        }
        run.due(0, "add", 0, 59).due(60, "count", 3).due(0, "add", 0, 61).due(60, "count", 3).due(1, "count", 7).due(57, "wrong");
    }

    private static void wrong() {
        Run.about("The first wrong sum that was ADDED (0 on); NONE: none. (Then all are forgotten.)");
        Run run = Run.of("plain 2;plain 2;").due(-1, "wrong").due(0, "add", 0, 2).due(0, "wrong").due(-1, "wrong").due(0, "count", 3);
        run.due(1, "add", 1, 1).due(1, "add", 1, 3).due(1, "add", 1, 6).due(0, "add", 1, 9).due(4, "count", 3).due(3, "wrong");
        run.due(0, "count", 3).due(1, "add", 0, 1).due(0, "add", 0, 4).due(0, "add", 0, 7).due(1, "add", 0, 10).due(1, "wrong");
        run.due(1, "add", 0, 1).due(-1, "wrong").due(1, "add", 1, 1);
        Run many = Run.of("plain 40;");
        for (int page = 1; page <= 60; page++) {
            many.due(page == 60 ? 0 : 1, "add", 0, page == 60 ? 1 : page * (page + 1) / 2);
        }
        many.due(59, "wrong").due(-1, "wrong").due(1, "add", 0, 1);
    }

    private static void seed() {
        Run.about("BY A SEED (k 0 to 60): how many are GONE then.");
        Run run = Run.of("plain 200;plain 60;plain 1;gone 0 0;").due(1, "seed", 0, 5, 0).due(0, "count", 2).due(2, "seed", 0, 5, 1);
        run.due(60, "seed", 0, LEAST, 58).due(59, "count", 2).due(60, "seed", 0, 5, 0).due(60, "seed", 1, MOST, 60);
        run.due(0, "sum", 1).due(60, "seed", 1, 0, 0).due(1, "seed", 2, -1, 1).due(1, "seed", 2, -1, 0).due(0, "count", 6);
        run.due(1, "put").due(1, "isThere", 2, 0).due(1, "put").due(59, "book", 1, 2);
    }

    private static void seedDraws() {
        Run.about("of all that are there the one by a DRAW of how many these are, the first first");
        // A seed of 1 draws 16838, 5758, 10113, 17515.
        Run run = Run.of("plain 10;gone 0 2;").due(5, "seed", 0, 1, 4);
        boolean[] gone = new boolean[10];
        gone[2] = true;
        int there = 9;
        for (int draw : new int[] {16838, 5758, 10113, 17515}) {
            int wanted = draw % there--;
            for (int leaf = 0; leaf < 10; leaf++) {
                if (!gone[leaf] && wanted-- == 0) {
                    gone[leaf] = true;
                    break;
                }
            }
        }
        for (int leaf = 0; leaf < 10; leaf++) {
            run.due(gone[leaf] ? 0 : 1, "isThere", 0, leaf);
        }
        Run.about("A seed becomes itself times 1103515245 and 12345 (an int that wraps); a DRAW of n is its bits 16 to 30 MOD n then.");
        Run.of("plain 2000;").due(2, "seed", 0, 1, 2).due(0, "isThere", 0, 838).due(0, "isThere", 0, 5758 % 1999 + 1);
        // A seed by which the int is 2^31 - 1, 2^31 or -1 then: the highest bit is none of the draw's.
        for (int then : new int[] {MOST, LEAST, -1, 65535, 65536, LEAST + 65536}) {
            int before = (then - 12345) * inverse();
            Run.of("plain 2000;").due(1, "seed", 0, before, 1).due(0, "isThere", 0, (then >>> 16 & 0x7fff) % 2000);
        }
    }

    /** By which 1103515245 makes 1, as ints wrap. */
    private static int inverse() {
        int inverse = 1;
        for (int i = 0; i < 31; i++) {
            inverse *= 2 - 1103515245 * inverse;
        }
        return inverse;
    }

    private static void seedRefused() {
        Run.about("(no more than 60 are GONE, and none if there are not so many)");
        Run run = Run.of("plain 5;plain 200;gone 0 0;gone 1 0;").due(-1, "seed", 0, 1, 5).due(1, "count", 6).due(1, "book", 0, 2);
        run.due(5, "seed", 0, 1, 4).due(-1, "seed", 0, 1, 1).due(2, "count", 6).due(5, "seed", 0, 1, 0).due(0, "sum", 0);
        run.due(-1, "seed", 1, 1, 60).due(3, "count", 6).due(1, "book", 1, 2).due(60, "seed", 1, 1, 59);
        run.due(-1, "seed", 1, 1, 1).due(4, "count", 6).due(60, "seed", 1, 1, 0).due(60, "book", 1, 2).due(63, "count", 2);
    }

    private static void seedWrong() {
        Run.about("NONE (STATUS 1): they can't be. IllegalArgumentException (behind NoSuchElementException): k.");
        Run run = Run.of("plain 5;");
        for (int k : new int[] {-1, 61, LEAST, MOST}) {
            run.illegal("seed", 0, 1, k).noSuch("seed", 1, 1, k).noSuch("seed", -1, 1, k);
        }
        run.noSuch("seed", 1, 1, 0).noSuch("seed", MOST, 1, 60).noSuch("seed", LEAST, 1, 1).due(0, "count", 6).due(0, "book", 0, 2);
        run.due(-1, "seed", 0, 1, 60).due(-1, "seed", 0, 1, 6).due(2, "count", 6).due(0, "count", 2).due(55, "sum", 0);
    }

    private static void image() {
        Run.about("AN IMAGE keeps what is GONE (and in which order it was TORN), what was ADDED, what is STUCK, STATUS.");
        Run run = Run.of("plain 6;plain 6;gone 0 0;").due(2, "tear", 0, 3).due(2, "sheet", 1, 0).due(3, "tear", 0, 1);
        run.due(0, "add", 1, 7).due(1, "stick", 1, 1).due(-1, "tear", 0, 1).due(-1, "stick", 1, 1).due(0, "add", 0, 1).answer("image");
        run.due(1, "put").due(2, "put").due(3, "tear", 0, 5).due(0, "wrong").due(1, "add", 0, 1).due(0, "loosen");
        run.text(1, "x").due(-1, "tear", 0, 0).due(1, "restore");
        run.due(3, "book", 0, 2).due(2, "book", 1, 2).due(1, "isThere", 0, 5).due(3, "count", 2).due(1, "count", 3).due(1, "count", 9);
        run.due(0, "count", 5).due(1, "count", 6).due(1, "count", 7).due(1, "count", 8).due(1, "add", 1, 3).due(0, "wrong");
        run.due(1, "put").due(1, "isThere", 0, 1).due(2, "put").due(1, "isThere", 1, 5).due(1, "put").due(-1, "put");
        run.due(0, "isThere", 0, 0).due(-1, "stick", 1, 1).due(0, "loosen").due(1, "stick", 1, 1);
    }

    private static void imageInPlace() {
        Run.about("AN IMAGE is kept, in place of another one.");
        Run run = Run.of("plain 3;").due(1, "tear", 0, 0);
        run.answer("image");
        run.due(2, "tear", 0, 1).answer("image");
        run.due(1, "put").due(1, "put").due(1, "restore").due(2, "book", 0, 2).due(1, "put").due(0, "isThere", 0, 0);
        run.answer("image");
        run.due(1, "restore").due(1, "count", 2).due(1, "put").due(-1, "put").due(1, "restore").due(1, "count", 2);
    }

    private static void restore() {
        Run.about("It is as the IMAGE again: true. False: there is none.");
        Run run = new Run().due(0, "restore");
        run.answer("image");
        run.due(1, "restore").text(0, "plain 3;").due(0, "restore").due(1, "tear", 0, 0).due(0, "restore").due(1, "count", 2);
        run.answer("image");
        run.text(1, "x").due(1, "restore").due(0, "count", 5).due(1, "restore").due(2, "tear", 0, 1).due(1, "restore");
        run.due(1, "isThere", 0, 1).due(0, "isThere", 0, 0);
    }

    private static void status() {
        Run.about("STATUS: how many calls were refused: 0 TEXTS with a FAULT, 1 LEAVES and SHEETS that can't be TORN, 2 sums that are ADDED");
        Run run = Run.of("plain 3;sewn 2;gone 0 0;").text(1, "x").text(2, "plain 0;").illegal("shelf", 1).due(2, "count", 5);
        run.due(-1, "tear", 0, 0).due(-1, "sheet", 0, 0).due(-1, "seed", 0, 1, 3).noSuch("tear", 0, 3).noSuch("sheet", 1, 1);
        run.illegal("seed", 0, 1, 61).due(-1, "put").due(3, "count", 6).due(0, "add", 0, 5).due(0, "count", 7).due(0, "add", 1, 1);
        run.noSuch("add", 2, 1).due(1, "count", 7).due(0, "count", 8).text(0, "").due(2, "count", 5).due(3, "count", 6).due(1, "count", 7);
    }
}
