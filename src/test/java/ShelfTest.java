/** Promises 1 to 6: a new object, the tape, the text of a shelf and its faults. */
public final class ShelfTest {
    private static final String SIX = "plain 1;sewn 2;roman 0 3;odd 4;even 5;skip 1 6;";

    public static void main(String[] args) {
        newObject();
        tape();
        lines();
        blanksAndTokens();
        whatCannotStand();
        whatIsTooMuch();
        whatIsNotThere();
        whatIsTwice();
        leastOfOneToken();
        rulesTold();
        rulesWithFaults();
        faultsLeaveAllElse();
        shelfAnew();
        Run.end("ShelfTest");
    }

    private static void newObject() {
        Run run = new Run();
        for (int what = 0; what <= 9; what++) {
            run.due(0, "count", what);
        }
        for (int what = 10; what <= 19; what++) {
            run.due(100, "count", what);
        }
        run.noSuch("count", 20).noSuch("count", -1).noSuch("count", Integer.MIN_VALUE).noSuch("count", Integer.MAX_VALUE);
        run.due(-1, "fault").noSuch("book", 0, 0).noSuch("book", -1, 0).noSuch("sum", 0);
        run.due(-1, "wrong").due(-1, "put").due(-1, "loosen").due(0, "restore");
        run.noSuch("child", 0).noSuch("torn", 0);
    }

    private static void tape() {
        Run run = new Run();
        for (int i = 1; i <= 25; i++) {
            run.due(20 * i, "feed", 0x20202020, 0x20202020, 0x20202020, 0x20202020, 0x20202020);
        }
        run.due(-1, "feed", 0, 0, 0, 0, 0).due(500, "count", 4);
        run.illegal("shelf", 501).illegal("shelf", -1).illegal("shelf", Integer.MIN_VALUE).due(500, "count", 4);
        run.due(0, "shelf", 500).due(0, "count", 4).due(-1, "fault").due(0, "count", 5);
        run.illegal("shelf", 1).due(0, "shelf", 0);
        // The highest byte of each number comes first.
        run.due(20, "feed", 0x6f646420, 0x313b0000, 0xff000000, 0x80808080, -1);
        run.due(0, "shelf", 6).due(1, "count", 0).due(3, "book", 0, 0).due(1, "book", 0, 1).due(0, "count", 4);
        run.feed("plain 1;").feed("plain 2;").due(40, "count", 4).due(0, "shelf", 40).due(2, "count", 0);
    }

    private static void lines() {
        Run run = Run.of("plain 3;sewn 4;roman 99 5;odd 2000;even 1;skip 9 7;gone 5 6 0;gone 0 1;copy 3;copy 0 0 1 2;"
                + "lead 0 1 2 3 4 5 6 7 8 9999;");
        run.due(6, "count", 0).due(2, "count", 1).due(0, "count", 2);
        int[][] books = {{0, 3, 1, 0}, {1, 4, 0, 0}, {2, 5, 0, 99}, {3, 2000, 0, 0}, {4, 1, 0, 0}, {5, 7, 2, 9}};
        for (int book = 0; book < books.length; book++) {
            for (int what = 0; what < 4; what++) {
                run.due(books[book][what], "book", book, what);
            }
        }
        for (int figure = 0; figure < 9; figure++) {
            run.due(figure, "count", 10 + figure);
        }
        run.due(9999, "count", 19).noSuch("book", 6, 0).noSuch("book", 0, 4).noSuch("book", 0, -1).noSuch("book", -1, 0);
        run.noSuch("book", Integer.MAX_VALUE, 0).noSuch("book", Integer.MIN_VALUE, 3);
        Run.of("told 12 by page;").due(6, "book", 0, 0).due(12, "book", 0, 1).due(0, "book", 0, 3);
        Run.of("").due(0, "count", 0);
        Run.of("lead 0 0 0 0 0 0 0 0 0 0;plain 1;").due(0, "count", 10).due(1, "count", 0);
    }

    private static void blanksAndTokens() {
        Run.of("plain3;roman2 3;gone 0 1 0 2;").due(3, "book", 0, 2).due(2, "book", 1, 3);
        Run.of("  \n plain\n0003\n ;\n\n").due(3, "book", 0, 1);
        Run.of("told3by(page+1)*2=4and not side;").due(0, "number", 0, 2).due(1, "number", 0, 1);
        new Run().fault(1, 0, "\tplain 3;").fault(1, 5, "plain\t3;").fault(1, 5, "plain\r3;");
        new Run().fault(1, 0, "Plain 3;").fault(1, 0, "plainer 3;").fault(1, 0, "plai 3;").fault(1, 0, "pl ain 3;");
        new Run().fault(1, 0, "\u00ff").fault(1, 0, "\u0080").fault(1, 0, "\u0000").fault(1, 8, "plain 3;{");
    }

    private static void whatCannotStand() {
        new Run().fault(1, 0, "x").fault(1, 0, ";").fault(1, 0, "3").fault(1, 0, "(").fault(1, 0, "by");
        new Run().fault(1, 5, "plain").fault(1, 7, "plain  ").fault(1, 7, "plain 3").fault(1, 9, "plain 3 \n");
        new Run().fault(1, 6, "plain ;").fault(1, 6, "plain a;").fault(1, 8, "plain 3 4;").fault(1, 8, "plain 3 a;");
        new Run().fault(1, 8, "plain 3 plain 4;").fault(1, 7, "roman 3;").fault(1, 6, "skip 3;");
        new Run().fault(1, 8, "plain 3;;");
        new Run().fault(1, 12, "plain 3;gone;").fault(1, 14, "plain 3;gone 0;").fault(1, 15, "plain 3;gone 0 ;");
        new Run().fault(1, 13, "plain 3;gone -1;").fault(1, 15, "plain 3;gone 0 a;").fault(1, 12, "plain 3;copy;");
        new Run().fault(1, 15, "plain 3;copy 0 -1;").fault(1, 14, "plain 3;gone 0").fault(1, 16, "plain 3;gone 0 1");
        new Run().fault(1, 14, "plain 3;copy 0").fault(1, 13, "plain 3;copy a;").fault(0, -1, "plain 3;copy 0;");
        new Run().fault(1, 22, "lead 1 2 3 4 5 6 7 8 9;").fault(1, 25, "lead 1 2 3 4 5 6 7 8 9 0 1;");
        new Run().fault(1, 5, "lead ;").fault(1, 24, "lead 1 2 3 4 5 6 7 8 9 0");
        // A number of 5 digits where none can stand.
        new Run().fault(1, 8, "plain 3 12345;").fault(1, 0, "12345");
    }

    private static void whatIsTooMuch() {
        new Run().fault(2, 6, "plain 0;").fault(2, 6, "plain 2001;").fault(2, 6, "plain 00003;").fault(0, -1, "plain 2000;");
        new Run().fault(2, 5, "sewn 3;").fault(2, 5, "sewn 1999;").fault(0, -1, "sewn 2000;").fault(2, 5, "sewn 2002;");
        new Run().fault(2, 5, "sewn 0;").fault(0, -1, "sewn 0002;").fault(2, 5, "sewn 00002;");
        new Run().fault(2, 6, "roman 100 3;").fault(0, -1, "roman 0 3;").fault(2, 8, "roman 3 0;");
        new Run().fault(2, 5, "skip 0 3;").fault(2, 5, "skip 10 3;").fault(0, -1, "skip 1 3;").fault(2, 7, "skip 1 2001;");
        new Run().fault(2, 5, "told 0 by page;").fault(2, 5, "lead 10000 2 3 4 5 6 7 8 9 0;");
        new Run().fault(2, 23, "lead 1 2 3 4 5 6 7 8 9 00000;").fault(2, 12, "plain 3;gone00000 1;");
        new Run().fault(2, 15, "plain 3;gone 0 00001;").fault(2, 15, "plain 3;copy 0 00001;");
        new Run().fault(2, SIX.length(), SIX + "plain 3;").fault(2, SIX.length(), SIX + "told;");
        new Run().fault(1, SIX.length(), SIX + "x;").fault(0, -1, SIX + "copy 0;");
        String eight = "plain 3;" + "copy 0;".repeat(8);
        new Run().fault(0, -1, eight).due(8, "count", 1).fault(2, eight.length(), eight + "copy 0;");
        new Run().fault(2, eight.length(), eight + "copy").due(0, "count", 1);
        String sixty = "plain 99;gone 0" + Run.row(0, 30) + ";gone 0" + Run.row(30, 60);
        new Run().fault(0, -1, sixty + ";").due(60, "book", 0, 2).fault(2, sixty.length() + 1, sixty + " 60;");
        String other = sixty + ";plain 2;gone 1 1;";
        new Run().fault(0, -1, other).fault(2, other.length() + 7, other + "gone 0 98;");
        String thirty = "plain 99;copy 0" + Run.row(0, 30);
        new Run().fault(0, -1, thirty + ";copy 0" + Run.row(0, 30) + ";").fault(2, thirty.length() + 1, thirty + " 30;");
    }

    private static void whatIsNotThere() {
        new Run().fault(3, 5, "gone 0 1;").fault(3, 5, "copy 0 1;").fault(3, 13, "plain 3;gone 1 0;plain 2;");
        new Run().fault(3, 13, "plain 3;copy 1;").fault(3, 13, "plain 3;copy 9999;").fault(3, 15, "plain 3;gone 0 3;");
        new Run().fault(3, 17, "plain 3;gone 0 1 3;").fault(3, 15, "plain 3;copy 0 3;").fault(0, -1, "plain 3;gone 0 2;");
        new Run().fault(3, 10, "told 3 by pages;").fault(3, 10, "told 3 by or 1;").fault(3, 10, "told 3 by by;");
        for (char letter = 'a'; letter <= 'z'; letter++) {
            new Run().fault(3, 10, "told 3 by " + letter + ";").fault(3, 12, "told 3 by 1+pag" + letter + "e;");
            new Run().fault(1, 7, "told 3 " + letter + ";").fault(1, 0, "" + letter);
        }
        for (String word : new String[] {"page", "leaf", "side", "leaves", "not 1", "1 and 1", "1 or 1"}) {
            Run.of("told 3 by " + word + ";");
        }
        for (String word : new String[] {"qage", "pagf", "meaf", "tide", "meaves", "leavet", "leave", "nou 1", "oot 1"}) {
            new Run().fault(3, 10, "told 3 by " + word + ";");
        }
        for (String word : new String[] {"bnd", "ane", "pr", "os", "o", "an", "ando", "orr"}) {
            new Run().fault(1, 12, "told 3 by 1 " + word + " 1;");
        }
        for (String word : new String[] {"qlain 2", "tewn 2", "soman 2 2", "pdd 2", "fven 2", "tkip 2 2", "uold 2 by 1", "lead"}) {
            new Run().fault(1, word.equals("lead") ? 4 : 0, word);
        }
        new Run().fault(1, 8, "plain 3;hone 0 1;").fault(1, 8, "plain 3;dopy 0 1;").fault(1, 0, "mead 1 2 3 4 5 6 7 8 9 0;");
        new Run().fault(1, 7, "told 3 cy 1;").fault(1, 7, "told 3 bz 1;");
        new Run().fault(1, 10, "told 3 by `;").fault(1, 10, "told 3 by {;").fault(1, 10, "told 3 by A;").fault(1, 10, "told 3 by Z;");
        new Run().fault(1, 6, "plain /;").fault(1, 6, "plain :;").fault(1, 11, "told 3 by 1:;").fault(1, 11, "told 3 by 1>;");
        new Run().fault(3, 14, "told 3 by 1 + not 1;").fault(3, 14, "told 3 by 1 + plain;").fault(3, 14, "told 3 by 1 * and;");
    }

    private static void whatIsTwice() {
        new Run().fault(4, 17, "plain 3;gone 0 1 1;").fault(4, 24, "plain 3;gone 0 1;gone 0 1;");
        new Run().fault(4, 17, "plain 3;copy 0 1 1;").fault(0, -1, "plain 3;copy 0 1;copy 0 1;gone 0 1;");
        String lead = "lead 1 2 3 4 5 6 7 8 9 0;";
        new Run().fault(5, lead.length(), lead + lead).fault(5, lead.length(), lead + "lead").fault(0, -1, lead);
    }

    private static void leastOfOneToken() {
        String sixty = "plain 99;gone 0" + Run.row(0, 60);
        new Run().fault(2, sixty.length() + 1, sixty + " 99;").fault(2, sixty.length() + 1, sixty + " 0;");
        String thirty = "plain 99;copy 0" + Run.row(0, 30);
        new Run().fault(2, thirty.length() + 1, thirty + " 0;").fault(2, thirty.length() + 1, thirty + " 9999;");
        new Run().fault(2, 15, "plain 3;gone 0 99999;").fault(2, 13, "plain 3;gone 99999 1;");
        // The first along the text, however great another is.
        new Run().fault(3, 15, "plain 3;gone 0 7 x").fault(2, 6, "plain 0 x");
    }

    private static void rulesTold() {
        rule("5", 5, 5, 5, 5);
        rule("page", 1, 2, 3, 4);
        rule("leaf", 0, 0, 1, 1);
        rule("side+1", 1, 2, 1, 2);
        rule("leaves", 2, 2, 2, 2);
        rule("1+2*3", 7, 7, 7, 7);
        rule("(1+2)*3", 9, 9, 9, 9);
        rule("10-3-2", 5, 5, 5, 5);
        rule("100/7/2*3", 21, 21, 21, 21);
        rule("page-3", 0, 0, 0, 1);
        rule("(0-7)/2+10", 7, 7, 7, 7);
        rule("7/(0-2)+10", 7, 7, 7, 7);
        rule("page/0+1", 1, 1, 1, 1);
        rule("9999*10+9", 99999, 99999, 99999, 99999);
        rule("9999*10+9+page-1", 99999, 0, 0, 0);
        rule("9999*9999*99+page*9999*9999", 0, 0, 0, 0);
        rule("9999*9999*43/4096", 1018, 1018, 1018, 1018);
        rule("4096*4096*256+7", 7, 7, 7, 7);
        rule("4096*4096*128/9999/9999", 0, 0, 0, 0);
        rule("4096*4096*128/(0-1)=4096*4096*128", 1, 1, 1, 1);
        rule("4096*4096*128<0", 1, 1, 1, 1);
        rule("page<3", 1, 1, 0, 0);
        rule("page=3", 0, 0, 1, 0);
        rule("3<page", 0, 0, 0, 1);
        rule("page+1=2*2", 0, 0, 1, 0);
        rule("not page", 0, 0, 0, 0);
        rule("not not page", 1, 1, 1, 1);
        rule("not not not not not not page", 1, 1, 1, 1);
        rule("not page=3", 1, 1, 0, 1);
        rule("page and 5", 1, 1, 1, 1);
        rule("0 or page", 1, 1, 1, 1);
        rule("side or page=1", 1, 1, 0, 1);
        rule("page and side", 0, 1, 0, 1);
        rule("page=1 or page=2 and side=0", 1, 0, 0, 0);
        rule("(page=1 or page=2) and side=0", 1, 0, 0, 0);
        rule("page=3 or page=4 and side", 0, 0, 1, 1);
        rule("1 or 0 and 0", 1, 1, 1, 1);
        rule("(1 or 0) and 0", 0, 0, 0, 0);
        rule("not 0 and 0", 0, 0, 0, 0);
        rule("not (0 and 0)", 1, 1, 1, 1);
        rule("(page<3)*7+(not(page<3))*page", 7, 7, 3, 4);
        rule("(((((page)))))", 1, 2, 3, 4);
        rule("1*(2+(3*(4+(5*(6+page)))))", 119, 134, 149, 164);
        rule("0<0-1", 0, 0, 0, 0);
        rule("1-1-1<0", 1, 1, 1, 1);
        rule("not not not not not not 1 and not not not not not not 1", 1, 1, 1, 1);
    }

    /** A told book of two leaves: the numbers on its four pages. */
    private static void rule(String rule, int... numbers) {
        Run run = Run.of("told 2 by " + rule + ";");
        for (int page = 1; page <= 4; page++) {
            run.due(numbers[page - 1], "number", 0, page);
        }
    }

    private static void rulesWithFaults() {
        new Run().fault(1, 7, "told 2 ;");
        new Run().fault(1, 7, "told 2 page;");
        new Run().fault(1, 7, "told 2 bypage;");
        new Run().fault(1, 9, "told 2 by;");
        new Run().fault(1, 9, "told 2 by");
        new Run().fault(1, 10, "told 2 by *;");
        new Run().fault(1, 10, "told 2 by -1;");
        new Run().fault(1, 10, "told 2 by );");
        new Run().fault(1, 11, "told 2 by ();");
        new Run().fault(1, 12, "told 2 by (1;");
        new Run().fault(1, 12, "told 2 by (1");
        new Run().fault(1, 11, "told 2 by 1);");
        new Run().fault(1, 13, "told 2 by 1<2<3;");
        new Run().fault(1, 13, "told 2 by 1=2=3;");
        new Run().fault(1, 12, "told 2 by 1 2;");
        new Run().fault(1, 15, "told 2 by page leaf;");
        new Run().fault(1, 15, "told 2 by page not;");
        new Run().fault(1, 15, "told 2 by page (1);");
        new Run().fault(1, 13, "told 2 by not;");
        new Run().fault(1, 14, "told 2 by 1 or;");
        new Run().fault(1, 15, "told 2 by 1 and");
        new Run().fault(1, 12, "told 2 by 1+");
        new Run().fault(1, 13, "told 2 by (1)");
        new Run().fault(1, 14, "told 2 by 1 = ;");
        new Run().fault(1, 12, "told 2 by 1 % 2;");
        new Run().fault(2, 10, "told 2 by 12345;");
        new Run().fault(2, 12, "told 2 by 1+12345;");
        new Run().fault(2, 34, "told 2 by not not not not not not not page;");
        new Run().fault(2, 40, "told 2 by 0 and not not not not not not not page;");
        new Run().fault(2, 16, "told 2 by ((((((1))))));");
        new Run().fault(2, 16, "told 2 by ((((((page))))));");
        new Run().fault(2, 16, "told 2 by ((((((pages))))));");
        new Run().fault(2, 16, "told 2 by ((((((not 1))))));");
        new Run().fault(2, 16, "told 2 by ((((((plain").fault(2, 16, "told 2 by ((((((or").fault(2, 16, "told 2 by ((((((x");
        new Run().fault(2, 16, "told 2 by (((((((1)))))));");
        new Run().fault(2, 16, "told 2 by ((((((12345))))));");
        new Run().fault(1, 16, "told 2 by (((((()))))));");
        new Run().fault(1, 16, "told 2 by ((((((*1))))));");
        new Run().fault(1, 16, "told 2 by ((((((");
        new Run().fault(1, 16, "told 2 by ((((((;");
        new Run().fault(0, -1, "told 2 by (((((1)))))+(((((2)))));");
        new Run().fault(0, -1, "told 2 by not not not not not not(not not not not not not page);");
        new Run().fault(1, 8, "plain 2 by page;");
    }

    private static void faultsLeaveAllElse() {
        Run run = Run.of("plain 9;told 2 by page+1;gone 0 1;copy 0 2;lead 1 1 1 1 1 1 1 1 1 1;");
        run.due(2, "tear", 0, 2).due(1, "add", 0, 1).due(0, "add", 0, 4).due(1, "stick", 0, 5).due(4, "shares", 1, 2);
        run.due(1, "least", 1, 5).due(-1, "tear", 0, 2).answer("image");
        run.text(1, "even 3;odd 5;told 7 by page*3;gone 0 1;copy 0;lead 7 7 7 7 7 7 7 7 7 7;!").due(71, "fault");
        run.due(2, "count", 0).due(1, "count", 1).due(1, "count", 2).due(2, "count", 3).due(0, "count", 4);
        run.due(1, "count", 5).due(1, "count", 6).due(1, "count", 9).due(1, "count", 12).due(0, "book", 0, 0);
        run.due(2, "book", 0, 2).due(5, "number", 1, 4).due(0, "child", 0).due(1, "child", 1).due(1, "torn", 0);
        run.due(0, "isThere", 0, 2).due(-1, "whole", 0).due(1, "bought", 0).due(14, "sum", 1);
        run.illegal("shelf", 1).due(71, "fault").due(1, "restore").due(0, "count", 5);
        run.text(0, "").due(-1, "fault").text(3, "gone 0 1;").due(5, "fault").text(0, "odd 1;").due(-1, "fault");
    }

    private static void shelfAnew() {
        Run run = Run.of("plain 9;gone 0 1;copy 0 2;lead 1 1 1 1 1 1 1 1 1 1;");
        run.due(2, "tear", 0, 2).due(0, "add", 0, 3).due(1, "stick", 0, 5);
        run.due(-1, "tear", 0, 2).due(-1, "stick", 0, 5).text(1, "x").answer("image");
        run.text(0, "plain 4;");
        run.due(1, "count", 0).due(0, "count", 1).due(0, "count", 2).due(0, "count", 3).due(0, "count", 4);
        run.due(1, "count", 5).due(1, "count", 6).due(0, "count", 7).due(1, "count", 8).due(0, "count", 9);
        run.due(100, "count", 10).due(-1, "fault").due(0, "restore").due(0, "book", 0, 2).due(-1, "wrong");
        run.due(-1, "put").due(-1, "loosen").noSuch("child", 0).noSuch("torn", 0).due(36, "sum", 0);
        Run kept = Run.of("plain 4;").due(0, "shares", 0, 2).due(1, "least", 0, 33).due(1, "child", 1).due(0, "torn", 0);
        kept.text(0, "plain 4;").noSuch("child", 0).noSuch("torn", 0);
        // A told book's numbers are worked out anew.
        Run told = Run.of("told 2 by page;").due(10, "sum", 0).text(0, "told 2 by page*2;").due(20, "sum", 0);
        told.text(2, "told 3 by page;told 0 by 1;").due(20, "sum", 0).text(0, "plain 1;told 2 by 9;").due(36, "sum", 1);
    }
}
