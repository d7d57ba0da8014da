/** What the document's terms bound in a shelf's text, sentence by sentence; the faults are EdgeFaultTest's. */
public final class EdgeTextTest {
    private static final String SIX = "plain 1;sewn 2;roman 0 3;odd 4;even 5;skip 1 6;";
    private static final String[] KINDS = {"plain ", "sewn ", "roman 5 ", "odd ", "even ", "skip 5 ", "told "};

    public static void main(String[] args) {
        books();
        leaves();
        leavesOfSewnBooks();
        pagesOfLeaves();
        plainNumbers();
        romanNumbers();
        oddAndEvenNumbers();
        skipNumbers();
        toldNumbers();
        leavesGone();
        copies();
        lead();
        longestText();
        longTextsAnew();
        words();
        numbers();
        signs();
        blanks();
        notation();
        lines();
        linesOfBooks();
        linesOfLeaves();
        linesOfLead();
        capitals();
        grammarOfRules();
        perhaps();
        arithmetic();
        tests();
        values();
        Run.end("EdgeTextTest");
    }

    private static void books() {
        Run.about("BOOKS 0, 1 .. (at most 6) of a KIND: 0 plain, 1 sewn, 2 roman, 3 odd, 4 even, 5 skip, 6 told");
        Run.of("").due(0, "count", 0).noSuch("book", 0, 0).noSuch("book", -1, 0);
        Run.of("odd 1;").due(1, "count", 0).due(3, "book", 0, 0).noSuch("book", 1, 0).noSuch("book", -1, 0);
        Run run = Run.of(SIX).due(6, "count", 0).noSuch("book", 6, 0).noSuch("book", -1, 0);
        for (int book = 0; book < 6; book++) {
            run.due(book, "book", book, 0);
        }
        Run.of("told 1 by 1;").due(6, "book", 0, 0);
        Run.faulty(2, SIX.length(), SIX + "plain 1;");
    }

    private static void leaves() {
        Run.about("each of so many LEAVES 0, 1 .. (1 to 2000; a sewn one's are even)");
        for (String kind : KINDS) {
            String rule = kind.startsWith("told") ? " by 1;" : ";";
            Run.faulty(2, kind.length(), kind + 0 + rule);
            Run.faulty(2, kind.length(), kind + 2001 + rule);
            Run.faulty(2, kind.length(), kind + 2002 + rule);
            Run.faulty(2, kind.length(), kind + 9999 + rule);
            for (int many : new int[] {2, 2000}) {
                Run run = Run.of(kind + many + rule).due(many, "book", 0, 1);
                run.due(1, "isThere", 0, 0).due(1, "isThere", 0, many - 1).noSuch("isThere", 0, many).noSuch("isThere", 0, -1);
            }
            if (!kind.startsWith("sewn")) {
                Run.of(kind + 1 + rule).due(1, "isThere", 0, 0).noSuch("isThere", 0, 1).noSuch("isThere", 0, -1);
                Run.of(kind + 1999 + rule).due(1999, "book", 0, 1).noSuch("isThere", 0, 1999);
            }
        }
    }

    private static void leavesOfSewnBooks() {
        Run.about("a sewn one's are even");
        for (int odd : new int[] {1, 3, 99, 1999, 2001}) {
            Run.faulty(2, 5, "sewn " + odd + ";");
        }
        for (int even : new int[] {2, 4, 100, 1998, 2000}) {
            Run.of("sewn " + even + ";").due(even, "book", 0, 1);
        }
        for (String kind : new String[] {"plain 3;", "roman 3 3;", "odd 3;", "even 3;", "skip 3 3;", "told 3 by 3;"}) {
            Run.of(kind).due(3, "book", 0, 1);
        }
    }

    private static void pagesOfLeaves() {
        Run.about("of 2 PAGES each: LEAF i has the PAGES 2 i + 1 and 2 i + 2 (PAGES are counted from 1 on)");
        for (String kind : KINDS) {
            Run each = Run.of(kind + (kind.startsWith("told") ? "4 by 9;" : "4;"));
            each.noSuch("number", 0, 0).noSuch("number", 0, 9).noSuch("number", 0, -1);
            for (int leaf = 0; leaf < 4; leaf++) {
                long left = Long.parseLong(each.answer("sum", 0));
                long front = Long.parseLong(each.answer("number", 0, 2 * leaf + 1));
                long back = Long.parseLong(each.answer("number", 0, 2 * leaf + 2));
                each.due(leaf + 1, "tear", 0, leaf).due(left - front - back, "sum", 0);
            }
            each.due(0, "sum", 0);
        }
        Run run = Run.of("plain 3;plain 2000;gone 0 0;gone 1 1999;");
        run.noSuch("number", 0, 0).due(1, "number", 0, 1).due(6, "number", 0, 6).noSuch("number", 0, 7);
        run.noSuch("number", 1, 0).due(4000, "number", 1, 4000).noSuch("number", 1, 4001);
        run.due(21 - 1 - 2, "sum", 0).due(4000L * 4001 / 2 - 3999 - 4000, "sum", 1);
        Run.of("plain 3;gone 0 1;").due(21 - 3 - 4, "sum", 0);
        Run.of("plain 3;gone 0 2;").due(21 - 5 - 6, "sum", 0);
    }

    private static void plainNumbers() {
        Run.about("THE NUMBER on a PAGE n: plain and sewn n");
        Run.of("plain 1;sewn 2;").due(1, "number", 0, 1).due(2, "number", 0, 2).due(1, "number", 1, 1).due(4, "number", 1, 4);
    }

    private static void romanNumbers() {
        Run.about("of a roman one of R (0 to 99): none on the first R, then n less R");
        Run.of("roman 0 2000;").due(1, "number", 0, 1).due(4000, "number", 0, 4000).due(0, "book", 0, 3);
        Run.of("roman 1 2;").due(0, "number", 0, 1).due(1, "number", 0, 2).due(3, "number", 0, 4);
        Run.of("roman 99 50;").due(0, "number", 0, 99).due(1, "number", 0, 100).due(99, "book", 0, 3).due(1, "sum", 0);
        Run.of("roman 99 49;").due(0, "number", 0, 98).due(0, "sum", 0).due(0, "figures", 0, 10);
        Run.of("roman 4 2;").due(0, "number", 0, 4).due(0, "sum", 0);
        Run.of("roman 3 2;").due(0, "number", 0, 3).due(1, "number", 0, 4).due(1, "sum", 0);
        Run.faulty(2, 6, "roman 100 50;");
        Run.faulty(2, 6, "roman 9999 50;");
        Run.fine("roman 0099 50;");
    }

    private static void oddAndEvenNumbers() {
        Run.about("odd 2 n - 1; even 2 n");
        Run.of("odd 2000;").due(1, "number", 0, 1).due(3, "number", 0, 2).due(7999, "number", 0, 4000);
        Run.of("even 2000;").due(2, "number", 0, 1).due(4, "number", 0, 2).due(8000, "number", 0, 4000);
    }

    private static void skipNumbers() {
        Run.about("of a skip one of F (a figure, 1 to 9): the n-th number of 1, 2 .. in which F isn't written");
        Run.of("skip 1 2000;").due(2, "number", 0, 1).due(9, "number", 0, 8).due(20, "number", 0, 9).due(1, "book", 0, 3);
        Run.of("skip 9 2000;").due(1, "number", 0, 1).due(8, "number", 0, 8).due(10, "number", 0, 9).due(9, "book", 0, 3);
        Run.of("skip 5 50;").due(4, "number", 0, 4).due(6, "number", 0, 5).due(49, "number", 0, 44).due(60, "number", 0, 45);
        Run.faulty(2, 5, "skip 0 3;");
        Run.faulty(2, 5, "skip 10 3;");
        Run.faulty(2, 5, "skip 0000 3;");
    }

    private static void toldNumbers() {
        Run.about("of a told one what its EXPR gives of it, none if that is below 1 or above 99999");
        Run.of("told 3 by page-2;").due(0, "number", 0, 1).due(0, "number", 0, 2).due(1, "number", 0, 3).due(10, "sum", 0);
        Run run = Run.of("told 2 by 9999*10+6+page;").due(99997, "number", 0, 1).due(99999, "number", 0, 3);
        run.due(0, "number", 0, 4).due(99997 + 99998 + 99999, "sum", 0).due(15, "figures", 0, 10);
        Run.of("told 1 by 4096*4096*128-page;").due(0, "number", 0, 1).due(0, "number", 0, 2).due(0, "sum", 0);
        Run.of("told 1 by 4096*4096*128-1+page;").due(0, "number", 0, 1).due(0, "sum", 0);
    }

    private static void leavesGone() {
        Run.about("LEAVES that are GONE (at most 60 of a BOOK)");
        String sixty = "plain 61;plain 61;gone 0" + Run.row(0, 60) + ";";
        Run.of(sixty).due(60, "book", 0, 2).due(0, "book", 1, 2).due(-1, "tear", 0, 60).due(1, "tear", 1, 60);
        Run.of(sixty + "gone 1" + Run.row(1, 61) + ";").due(60, "book", 1, 2).due(121 + 122, "sum", 0).due(3, "sum", 1);
        Run.faulty(2, sixty.length() + 7, sixty + "gone 0 60;");
        Run run = Run.of("plain 61;gone 0" + Run.row(0, 59) + ";").due(60, "tear", 0, 59).due(-1, "tear", 0, 60);
        run.due(1, "put").due(60, "tear", 0, 60).due(-1, "tear", 0, 59);
    }

    private static void copies() {
        Run.about("COPIES (at most 8), each of a BOOK, of which LEAVES are missing (at most 30 each)");
        Run.of("plain 2;").due(0, "count", 1);
        Run.of("plain 2;copy 0;").due(1, "count", 1);
        String eight = "plain 31;odd 2;copy 1" + ";copy 0".repeat(7) + ";";
        Run.of(eight).due(8, "count", 1);
        Run.faulty(2, eight.length(), eight + "copy 1;");
        String thirty = "plain 31;copy 0" + Run.row(0, 30);
        Run.of(thirty + ";copy 0" + Run.row(1, 31) + ";").due(2, "count", 1).due(1, "tear", 0, 0).due(2, "whole", 0);
        Run.of(thirty + ";copy 0" + Run.row(1, 31) + ";").due(1, "tear", 0, 30).due(1, "whole", 0);
        Run.faulty(2, thirty.length() + 1, thirty + " 30;");
    }

    private static void lead() {
        Run.about("LEAD: of each figure 0 to 9 how many a printer has (0 to 9999; 100 without)");
        Run run = Run.of("lead 0 9999 0 1 2 3 4 5 6 7;").due(0, "count", 10).due(9999, "count", 11).due(7, "count", 19);
        run.text(0, "plain 1;");
        for (int figure = 0; figure <= 9; figure++) {
            run.due(100, "count", 10 + figure);
        }
        Run.faulty(2, 7, "lead 0 10000 0 0 0 0 0 0 0 0;");
        Run.faulty(1, 5, "lead -1 0 0 0 0 0 0 0 0 0;");
    }

    private static void longestText() {
        Run.about("A TEXT of at most 500 bytes tells it");
        String most = "plain 3;" + " ".repeat(484) + "gone 0 1";
        Run.faulty(1, 500, most);
        Run.of("plain 3;" + " ".repeat(483) + "gone 0 1;").due(1, "book", 0, 2).due(0, "count", 4);
        Run.faulty(3, 498, "plain 3;" + " ".repeat(483) + "gone 0 3;");
        Run.faulty(1, 499, "plain 3;" + " ".repeat(491) + "x");
        Run.faulty(1, 499, "plain 3;" + "\n".repeat(491) + ";");
        Run.fine("plain 3;" + " ".repeat(492));
        Run.fine(" ".repeat(500));
        Run.faulty(1, 0, "x".repeat(500));
        Run.faulty(1, 0, "7".repeat(500));
        String rule = "told 1 by 1" + "+1".repeat(244);
        Run.of(rule + ";").due(245, "number", 0, 2);
        Run.faulty(1, 500, rule + "+");
    }

    private static void longTextsAnew() {
        Run.about("The tape's first n bytes (it is empty then) are a SHELF, all anew");
        // However many rules were told before, a text of 500 bytes finds room.
        Run run = new Run();
        for (int more = 0; more < 8; more++) {
            run.text(0, "told 1 by page" + "+1".repeat(230 + more) + ";").due(232 + more, "number", 0, 2);
            run.text(3, "told 1 by page" + "+1".repeat(235) + "+pages").due(231 + more, "number", 0, 1);
        }
    }

    private static void words() {
        Run.about("TOKENS: words (a .. z, the longest row)");
        Run.faulty(1, 0, "plainplain 3;");
        Run.faulty(1, 0, "plai 3;");
        Run.faulty(1, 0, "plains 3;");
        Run.faulty(1, 0, "pla in 3;");
        Run.faulty(1, 6, "plain three;");
        Run.faulty(3, 10, "told 3 by pageleaf;");
        Run.faulty(3, 10, "told 3 by notpage;");
        Run.of("told 3 by leaf+leaves;").due(3, "number", 0, 1).due(5, "number", 0, 6);
        // The signs next to a and z, and capitals, are none of a word's.
        for (String no : new String[] {"`", "{", "P", "A", "Z", "@", "["}) {
            Run.faulty(1, 0, no + "plain 3;");
            Run.faulty(1, 5, "plain" + no + " 3;");
            Run.faulty(1, 10, "told 3 by " + no + ";");
        }
    }

    private static void numbers() {
        Run.about("NUMBERS (1 to 4 digits)");
        Run.of("plain 3;").due(3, "book", 0, 1);
        Run.of("plain 0003;").due(3, "book", 0, 1);
        Run.of("plain 1999;").due(1999, "book", 0, 1);
        Run.faulty(2, 6, "plain 00003;");
        Run.faulty(2, 6, "plain 000000000000000000000000003;");
        Run.of("told 1 by 9999;").due(9999, "number", 0, 1);
        Run.faulty(2, 10, "told 1 by 10000;");
        Run.faulty(2, 10, "told 1 by 4294967297;");
        // The signs next to 0 and 9 are no digits.
        for (String no : new String[] {"/", ":"}) {
            Run.faulty(1, 6, "plain " + no + "3;");
            Run.faulty(1, 7, "plain 3" + no + ";");
        }
    }

    private static void signs() {
        Run.about("signs ; ( ) + - * / < = and blanks (32, 10) between them, which count for nothing");
        Run.of("told 1 by (1)+2-1*8/4;").due(1, "number", 0, 1);
        Run.of("told 1 by 0<1;told 1 by 1=1;").due(1, "number", 0, 1).due(1, "number", 1, 1);
        for (int one = 0; one < 256; one++) {
            String text = "plain " + (char) one + " 3;";
            if (one == 32 || one == 10) {
                Run.fine(text);
            } else if (one >= '1' && one <= '9') {
                Run.faulty(1, 8, text);
            } else {
                Run.faulty(one == '0' ? 2 : 1, 6, text);
            }
        }
    }

    private static void blanks() {
        Run.about("blanks (32, 10) between them, which count for nothing");
        Run.of(" \n plain \n 3 \n ; \n ").due(3, "book", 0, 1);
        Run.of("plain3;gone0 1 2;").due(2, "book", 0, 2);
        Run.of("plain\n3\n;\ngone\n0\n1\n2\n;").due(2, "book", 0, 2);
        Run.of("told3by(page)*2;").due(2, "number", 0, 1);
        // Between digits and between letters one makes two tokens.
        Run.faulty(1, 8, "plain 1 2;");
        Run.of("plain 30;gone 0 1 2;").due(2, "book", 0, 2);
        Run.of("plain 30;gone 0 12;").due(1, "book", 0, 2).due(0, "isThere", 0, 12);
        for (char no : new char[] {0, 9, 11, 13, 31, 33, 127, 160, 255}) {
            Run.faulty(1, 7, "plain 3" + no + ";");
            Run.faulty(1, 0, no + "plain 3;");
            Run.faulty(1, 8, "plain 3;" + no);
        }
    }

    private static void notation() {
        Run.about("In quotes is what stands there, [ ] perhaps, * any number of times, | one of some.");
        // What stands there has each of its letters, and no other.
        for (String word : new String[] {"plain", "sewn", "roman", "odd", "even", "skip", "told", "gone", "copy", "lead"}) {
            for (int i = 0; i < word.length(); i++) {
                Run.faulty(1, 8, "plain 3;" + word.substring(0, i) + word.substring(i + 1) + " 2 2;");
                Run.faulty(1, 8, "plain 3;" + word.substring(0, i) + (char) (word.charAt(i) ^ 3) + word.substring(i + 1) + " 2 2;");
                Run.faulty(1, 8, "plain 3;" + word.substring(0, i) + (char) (word.charAt(i) - 32) + word.substring(i + 1) + " 2 2;");
            }
            Run.faulty(1, 8, "plain 3;" + word + word.charAt(word.length() - 1) + " 2 2;");
        }
        // One of some, and not two of them; any number of times, and never, too.
        Run.faulty(1, 6, "plain odd 3;");
        Run.faulty(1, 5, "gone copy 0 1;");
        for (int many = 0; many <= 20; many++) {
            Run.of("plain 31;gone 0 30" + Run.row(0, many) + ";copy 0" + Run.row(0, many) + ";").due(many + 1, "book", 0, 2);
            rule("0" + "+1".repeat(many) + "*1".repeat(many), many);
            rule("0" + " or 0".repeat(many) + " or 1 and 1" + " and 1".repeat(many), 1);
        }
    }

    private static void lines() {
        Run.about("SHELF: LINE*");
        Run.fine("");
        Run.fine(" ");
        Run.fine("\n\n");
        Run.of("odd 1;").due(1, "count", 0);
        Run.of("odd 1;even 2;").due(2, "count", 0);
        Run.faulty(1, 0, ";");
        Run.faulty(1, 6, "odd 1;;");
        Run.faulty(1, 5, "odd 1");
        Run.faulty(1, 6, "odd 1 even 2;");
    }

    private static void linesOfBooks() {
        Run.about("LINE: (('plain' | 'sewn' | 'roman' NUMBER | 'odd' | 'even' | 'skip' NUMBER) LEAVES | 'told' LEAVES 'by' EXPR");
        for (String kind : new String[] {"plain", "sewn", "odd", "even", "told"}) {
            Run.faulty(1, kind.length(), kind + ";");
            Run.faulty(1, kind.length() + 1, kind + " page;");
            Run.faulty(1, kind.length() + 1, kind + " (2);");
            Run.faulty(1, kind.length() + 3, kind + " 2 2;");
        }
        for (String kind : new String[] {"roman", "skip"}) {
            Run.faulty(1, kind.length(), kind + ";");
            Run.faulty(1, kind.length() + 2, kind + " 2;");
            Run.fine(kind + " 2 2;");
            Run.faulty(1, kind.length() + 5, kind + " 2 2 2;");
        }
        Run.faulty(1, 6, "told 2;");
        Run.faulty(1, 7, "told 2 1;");
        Run.faulty(1, 7, "told 2 page;");
        Run.faulty(1, 9, "told 2 by;");
        Run.faulty(1, 8, "plain 2 by 1;");
        Run.fine("told 2 by 1;");
    }

    private static void linesOfLeaves() {
        Run.about("'gone' BOOK LEAF LEAF* | 'copy' BOOK LEAF*");
        Run.faulty(1, 12, "plain 3;gone;");
        Run.faulty(1, 14, "plain 3;gone 0;");
        Run.of("plain 3;gone 0 2;").due(1, "book", 0, 2);
        Run.of("plain 3;gone 0 2 0 1;").due(3, "book", 0, 2);
        Run.faulty(1, 12, "plain 3;copy;");
        Run.of("plain 3;copy 0;").due(1, "count", 1);
        Run.of("plain 3;copy 0 2 0 1;").due(1, "count", 1);
        Run.faulty(1, 13, "plain 3;gone plain;");
        Run.faulty(1, 15, "plain 3;copy 0 (1);");
    }

    private static void linesOfLead() {
        Run.about("'lead' NUMBER and nine more) ';'");
        Run.faulty(1, 4, "lead;");
        Run.faulty(1, 22, "lead 0 1 2 3 4 5 6 7 8;");
        Run.of("lead 0 1 2 3 4 5 6 7 8 9;").due(0, "count", 10).due(8, "count", 18).due(9, "count", 19);
        Run.faulty(1, 25, "lead 0 1 2 3 4 5 6 7 8 9 0;");
        Run.faulty(1, 24, "lead 0 1 2 3 4 5 6 7 8 9");
    }

    private static void capitals() {
        Run.about("all in capitals but EXPR being NUMBERS.");
        String[] ahead = {"plain ", "sewn ", "roman ", "roman 3 ", "odd ", "even ", "skip ", "skip 3 ", "told ", "plain 3;gone ",
            "plain 3;gone 0 ", "plain 3;copy ", "lead ", "lead 1 2 3 4 5 6 7 8 9 "};
        for (String text : ahead) {
            for (String no : new String[] {"page", "leaves", "side", "(2)", "-2", "+2", "not 2", "two", "<2"}) {
                Run.faulty(1, text.length(), text + no + ";");
            }
        }
        Run.fine("plain 2;sewn 2;roman 2 2;odd 2;even 2;skip 2 2;gone 0 1;copy 1 1;lead 1 2 3 4 5 6 7 8 9 0;");
        // An EXPR may be more than a NUMBER.
        Run.of("told 2 by (page)+leaf;").due(4, "number", 0, 3).due(5, "number", 0, 4);
    }

    private static void perhaps() {
        Run.about("PART: NUMBER | VALUE | '(' EXPR ')'; [ ] is perhaps.");
        rule("4", 4);
        rule("4<5", 1);
        rule("4=5", 0);
        rule("(4)", 4);
        rule("(4<5)=(5=5)", 1);
        Run.faulty(1, 13, "told 1 by 4<5=6;");
        Run.faulty(1, 12, "told 1 by 4<;");
    }

    private static void grammarOfRules() {
        Run.about("EXPR: AND ('or' AND)*. AND: NOT ('and' NOT)*. NOT: 'not' NOT | SUM [('<' | '=') SUM].");
        rule("0 or 0 or 7", 1);
        rule("1 and 2 and 0", 0);
        rule("not 0", 1);
        rule("1<2", 1);
        rule("1=2", 0);
        Run.faulty(1, 13, "told 1 by 1<2<3;");
        Run.faulty(1, 13, "told 1 by 1=2<3;");
        Run.faulty(3, 12, "told 1 by 1<not 0;");
        Run.about("SUM: PRODUCT (('+' | '-') PRODUCT)*. PRODUCT: PART (('*' | '/') PART)*. PART: NUMBER | VALUE | '(' EXPR ')'");
        rule("7", 7);
        rule("7+1-2+3", 9);
        rule("7*6/2*3", 63);
        rule("(0 or 3)*(2<3)*5", 5);
        Run.faulty(1, 10, "told 1 by +1;");
        Run.faulty(1, 12, "told 1 by 1+;");
        Run.faulty(1, 12, "told 1 by 1+-1;");
        Run.faulty(1, 12, "told 1 by 1**1;");
        Run.faulty(1, 11, "told 1 by ();");
        Run.faulty(1, 12, "told 1 by (1;");
        Run.faulty(1, 11, "told 1 by 1);");
    }

    private static void arithmetic() {
        Run.about("From the left; ints that wrap, / cut down to 0, by 0 gives 0");
        rule("9-3-2", 4);
        rule("90/4/2", 11);
        rule("9/2*2", 8);
        rule("2*9/2", 9);
        rule("(0-7)/2+9", 6);
        rule("7/(0-2)+9", 6);
        rule("(0-7)/(0-2)", 3);
        rule("5/0+9", 9);
        rule("0/0+9", 9);
        rule("(0-5)/0+9", 9);
        // The greatest int and one more, the least one less one; the least one by -1.
        rule("4096*4096*128-1=0-4096*4096*128-1", 1);
        rule("4096*4096*128<0", 1);
        rule("0<4096*4096*128-1", 1);
        rule("0<0-4096*4096*128-1", 1);
        rule("4096*4096*256+3", 3);
        rule("(4096*4096*128)/(0-1)=4096*4096*128", 1);
        rule("4096*4096*128/9999/9999+30", 9);
        rule("(4096*4096*128-1)/4096/4096", 127);
    }

    private static void tests() {
        Run.about("tests, not, and, or are 1 or 0 (what isn't 0 holds)");
        rule("5*(2<3)", 5);
        rule("5+(3<3)", 5);
        rule("5+(4<3)", 5);
        rule("5*(3=3)", 5);
        rule("5+(3=4)", 5);
        rule("5*(not 0)", 5);
        rule("5+(not 1)", 5);
        rule("5+(not 7)", 5);
        rule("5+(not (0-1))", 5);
        rule("5*(7 and 9)", 5);
        rule("5*((0-7) and (0-9))", 5);
        rule("5+(7 and 0)", 5);
        rule("5+(0 and 7)", 5);
        rule("5*(7 or 0)", 5);
        rule("5*(0 or 0-7)", 5);
        rule("5*(7 or 9)", 5);
        rule("5+(0 or 0)", 5);
        rule("not not 7", 1);
    }

    private static void values() {
        Run.about("VALUES: 'page', 'leaf', 'side' (0 of an odd PAGE, 1 of an even one), 'leaves' (how many the BOOK has)");
        Run run = Run.of("told 2000 by page;told 2000 by leaf+1;told 2000 by side+1;told 2000 by leaves;told 1 by leaves+leaf;");
        run.due(1, "number", 0, 1).due(4000, "number", 0, 4000);
        run.due(1, "number", 1, 1).due(1, "number", 1, 2).due(2, "number", 1, 3).due(2000, "number", 1, 3999);
        run.due(2000, "number", 1, 4000).due(1, "number", 2, 1).due(2, "number", 2, 2).due(1, "number", 2, 3999);
        run.due(2, "number", 2, 4000).due(2000, "number", 3, 1).due(2000, "number", 3, 4000).due(1, "number", 4, 1);
        run.due(1, "number", 4, 2);
        // How many it has, not how many are there.
        Run.of("told 3 by leaves;gone 0 1;").due(3, "number", 0, 1).due(2, "tear", 0, 0).due(3, "number", 0, 6);
    }

    /** What a rule gives of the first page (0 if none). */
    private static void rule(String rule, int number) {
        Run.of("told 1 by " + rule + ";").due(number, "number", 0, 1);
    }
}
