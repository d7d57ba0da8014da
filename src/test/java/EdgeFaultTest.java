/** The document's sentences on faults: which one, where, and what is still none. */
public final class EdgeFaultTest {
    private static final String SIX = "plain 1;sewn 2;roman 0 3;odd 4;even 5;skip 1 6;";
    private static final String LEAD = "lead 1 2 3 4 5 6 7 8 9 0;";

    public static void main(String[] args) {
        firstAlongTheText();
        firstByte();
        leastOfOneToken();
        whatCannotStand();
        endsTooSoon();
        fiveDigits();
        notAsTold();
        withinSixOthers();
        sevenNots();
        seventhBook();
        ninthCopy();
        sixtyFirstGone();
        thirtyFirstMissed();
        bookNotToldAhead();
        leafThatItHasNot();
        wordThatIsNoValue();
        goneAlready();
        secondLead();
        Run.end("EdgeFaultTest");
    }

    private static void firstAlongTheText() {
        Run.about("FAULTS, the first along the text");
        Run.faulty(5, LEAD.length(), LEAD + LEAD + "x");
        Run.faulty(1, 0, "x" + LEAD + LEAD);
        Run.faulty(4, 17, "plain 3;gone 0 1 1 3 00000;x");
        Run.faulty(3, 17, "plain 3;gone 0 1 3 1 00000;x");
        Run.faulty(2, 17, "plain 3;gone 0 1 00000 3 1;x");
        Run.faulty(1, 17, "plain 3;gone 0 1 x 00000 3 1;x");
        Run.faulty(2, 6, "plain 0 x");
        Run.faulty(1, 8, "plain 1 x 0");
    }

    private static void firstByte() {
        Run.about("at a TOKEN's first byte");
        Run.faulty(1, 3, " \n pages 3;");
        Run.faulty(2, 8, "plain   99999;");
        Run.faulty(3, 16, "plain 3;gone 0  299;");
        Run.faulty(3, 11, "told 3 by\n\npages;");
        Run.faulty(5, LEAD.length() + 2, LEAD + "\n\nlead 1;");
    }

    private static void leastOfOneToken() {
        Run.about("of one TOKEN the least");
        // 1 and 2: too many digits where no number can stand.
        Run.faulty(1, 0, "00000;");
        Run.faulty(1, 8, "plain 3 00000;");
        Run.faulty(1, 12, "told 3 by 1 00000;");
        // 2 and 3: too many digits for a book or a leaf that isn't there.
        Run.faulty(2, 13, "plain 3;gone 00001 0;");
        Run.faulty(2, 13, "plain 3;copy 00001;");
        Run.faulty(2, 15, "plain 3;gone 0 00003;");
        // 2, 3 and 4: one leaf too many, that the book hasn't or that is gone already.
        String sixty = "plain 61;gone 0" + Run.row(0, 60);
        Run.faulty(2, sixty.length() + 1, sixty + " 60;");
        Run.faulty(2, sixty.length() + 1, sixty + " 61;");
        Run.faulty(2, sixty.length() + 1, sixty + " 59;");
        String thirty = "plain 31;copy 0" + Run.row(0, 30);
        Run.faulty(2, thirty.length() + 1, thirty + " 30;");
        Run.faulty(2, thirty.length() + 1, thirty + " 31;");
        Run.faulty(2, thirty.length() + 1, thirty + " 29;");
        // 2 and 3: a word that is no value, within six others.
        Run.faulty(2, 16, "told 3 by ((((((pages))))));");
    }

    private static void whatCannotStand() {
        Run.about("1 a TOKEN that can't stand there, or is none");
        for (String no : new String[] {"x", "by", "page", "not", "7", "(", ")", "+", "-", "*", "/", "<", "=", ";", "!", "\t"}) {
            Run.faulty(1, 0, no);
            Run.faulty(1, 8, "plain 3;" + no);
        }
        for (String no : new String[] {"x", "by", "plain", "(", ")", "-", ";", "!"}) {
            Run.faulty(1, 6, "plain " + no);
            Run.faulty(1, 6, "roman " + no);
            Run.faulty(1, 8, "roman 3 " + no);
            Run.faulty(1, 5, "skip " + no);
            Run.faulty(1, 7, "skip 3 " + no);
            Run.faulty(1, 13, "plain 3;gone " + no);
            Run.faulty(1, 15, "plain 3;gone 0 " + no);
            Run.faulty(1, 13, "plain 3;copy " + no);
            Run.faulty(1, 5, "lead " + no);
            Run.faulty(1, 7, "lead 1 " + no);
        }
        for (String no : new String[] {"x", "plain", "gone", "(", ")", "-", "!"}) {
            Run.faulty(1, 8, "plain 3 " + no);
            Run.faulty(1, 17, "plain 3;gone 0 1 " + no);
            Run.faulty(1, 17, "plain 3;copy 0 1 " + no);
        }
        for (String no : new String[] {"x", "7", "page", "plain", "(", ")", "-", ";", "!"}) {
            Run.faulty(1, 7, "told 2 " + no);
        }
        for (String no : new String[] {")", "+", "-", "*", "/", "<", "=", ";", "!"}) {
            Run.faulty(1, 10, "told 2 by " + no);
            Run.faulty(1, 11, "told 2 by (" + no);
            Run.faulty(1, 14, "told 2 by not " + no);
            Run.faulty(1, 12, "told 2 by 1+" + no);
            Run.faulty(1, 12, "told 2 by 1*" + no);
            Run.faulty(1, 12, "told 2 by 1<" + no);
            Run.faulty(1, 15, "told 2 by 1 or " + no);
        }
        for (String no : new String[] {"x", "7", "page", "not", "by", "plain", "(", ")", "!"}) {
            Run.faulty(1, 12, "told 2 by 1 " + no);
            Run.faulty(1, 15, "told 2 by page " + no);
        }
    }

    private static void endsTooSoon() {
        Run.about("(the text's length where it ends too soon)");
        String whole = "told 2 by (page)*2;skip 3 4;gone 0 1;copy 0 1;lead 1 2 3 4 5 6 7 8 9 0; ";
        for (int length = 0; length <= whole.length(); length++) {
            boolean between = length == 0 || whole.substring(0, length).stripTrailing().endsWith(";");
            Run run = new Run().feed(whole);
            if (between) {
                run.due(0, "shelf", length).due(-1, "fault");
            } else if (isCutWord(whole, length)) {
                int start = startOfWord(whole, length);
                run.due(whole.charAt(start) == 'p' ? 3 : 1, "shelf", length).due(start, "fault");
            } else {
                run.due(1, "shelf", length).due(length, "fault");
            }
        }
        Run.faulty(1, 11, "plain 3    ");
        Run.faulty(1, 5, "plain");
        Run.faulty(1, 7, "plain\n\n");
    }

    private static boolean isCutWord(String text, int length) {
        return length < text.length() && Character.isLetter(text.charAt(length)) && Character.isLetter(text.charAt(length - 1));
    }

    private static int startOfWord(String text, int length) {
        int start = length;
        while (start > 0 && Character.isLetter(text.charAt(start - 1))) {
            start--;
        }
        return start;
    }

    private static void fiveDigits() {
        Run.about("2 one that can, but is too much: a NUMBER of 5 digits or more");
        for (String much : new String[] {"00000", "00001", "10000", "99999", "000002", "4294967298", "1".repeat(400)}) {
            Run.faulty(2, 6, "plain " + much + ";");
            Run.faulty(2, 6, "roman " + much + " 2;");
            Run.faulty(2, 8, "roman 0 " + much + ";");
            Run.faulty(2, 5, "skip " + much + " 2;");
            Run.faulty(2, 13, "plain 3;gone " + much + " 1;");
            Run.faulty(2, 15, "plain 3;gone 0 " + much + ";");
            Run.faulty(2, 13, "plain 3;copy " + much + ";");
            Run.faulty(2, 15, "plain 3;copy 0 " + much + ";");
            Run.faulty(2, 5, "lead " + much + " 2 3 4 5 6 7 8 9 0;");
            Run.faulty(2, 23, "lead 1 2 3 4 5 6 7 8 9 " + much + ";");
            Run.faulty(2, 10, "told 1 by " + much + ";");
            Run.faulty(2, 13, "told 1 by 1+(" + much + ");");
        }
        Run.fine("plain 0002;roman 0001 0002;skip 0001 0002;gone 0000 0001;copy 0000 0001;told 0001 by 9999+0000;");
        Run.fine("lead 9999 0000 0001 9999 9999 9999 9999 9999 9999 9999;");
    }

    private static void notAsTold() {
        Run.about("or (not in an EXPR) not as told (an odd number of a sewn BOOK's LEAVES)");
        for (String much : new String[] {"plain 0", "plain 2001", "sewn 0", "sewn 1", "sewn 1999", "sewn 2001", "sewn 2002", "odd 0",
            "odd 9999", "even 0", "even 2001", "told 0", "told 2001", "roman 100", "skip 0", "skip 10", "skip 9999"}) {
            Run.faulty(2, much.indexOf(' ') + 1, much + ";");
        }
        Run.faulty(2, 8, "roman 5 0;");
        Run.faulty(2, 8, "roman 5 2001;");
        Run.faulty(2, 7, "skip 5 0;");
        Run.faulty(2, 7, "skip 5 2001;");
        for (String fine : new String[] {"plain 1", "plain 2000", "sewn 2", "sewn 2000", "odd 1", "even 2000", "told 1 by 0",
            "told 2000 by 9999", "roman 0 1", "roman 99 2000", "skip 1 1", "skip 9 2000"}) {
            Run.fine(fine + ";");
        }
    }

    private static void withinSixOthers() {
        Run.about("the first TOKEN of an EXPR within 6 others (a NUMBER, any word, a parenthesis)");
        String[] first = {"1", "9999", "page", "leaves", "not 1", "and", "or", "by", "plain", "lead", "x", "((1))"};
        for (String one : first) {
            Run.faulty(2, 16, "told 2 by ((((((" + one + "))))));");
            Run.faulty(2, 18, "told 2 by 1+((((((" + one + "))))));");
            Run.faulty(2, 22, "told 2 by (1)+(((((1+(" + one + "))))));");
        }
        for (String none : new String[] {")", ";", "+1", "-1", "*", "/", "<", "=", "!", "\u00e9", "", "  "}) {
            Run.faulty(1, 16 + (none.isBlank() ? none.length() : 0), "told 2 by ((((((" + none);
        }
        Run.fine("told 2 by (((((1)))));");
        Run.fine("told 2 by (((((page)))))+(((((not 1)))))*(((((leaf)))));");
        Run.of("told 2 by 1+(1+(1+(1+(1+(page)))));").due(6, "number", 0, 1).due(9, "number", 0, 4);
        // The parenthesis itself can stand; what stands behind it is too much.
        Run.faulty(1, 16, "told 2 by ((((((");
        Run.faulty(1, 15, "told 2 by (((((");
        Run.faulty(3, 15, "told 2 by (((((x");
    }

    private static void sevenNots() {
        Run.about("the seventh 'not' side by side");
        String six = "not ".repeat(6);
        Run.of("told 1 by " + six + "page;").due(1, "number", 0, 1);
        Run.of("told 1 by " + "not ".repeat(5) + "page;").due(0, "number", 0, 1);
        Run.faulty(2, 34, "told 1 by " + six + "not page;");
        Run.faulty(2, 34, "told 1 by " + six + "not");
        Run.faulty(2, 34, "told 1 by " + six + six + "page;");
        Run.faulty(2, 46, "told 1 by " + "not\n\n\n".repeat(6) + "not page;");
        Run.of("told 1 by " + six + "(" + six + "page);").due(1, "number", 0, 1);
        Run.of("told 1 by " + six + "page and " + six + "page or " + six + "0;").due(1, "number", 0, 1);
        Run.faulty(2, 35 + 24, "told 1 by " + six + "(" + six + "not page);");
        Run.faulty(1, 34, "told 1 by " + six + ";");
        Run.faulty(3, 34, "told 1 by " + six + "nots;");
    }

    private static void seventhBook() {
        Run.about("the first TOKEN of the 7th BOOK");
        for (String kind : new String[] {"plain 3;", "sewn 2;", "roman 0 1;", "odd 3;", "even 3;", "skip 3 3;", "told 3 by page;",
            "plain", "sewn 3", "told 0", "even x"}) {
            Run.faulty(2, SIX.length(), SIX + kind);
            Run.faulty(2, SIX.length() + 25, SIX + LEAD + kind);
        }
        for (String other : new String[] {"gone 5 0;", "copy 5;", LEAD}) {
            Run.of(SIX + other).due(6, "count", 0);
        }
        Run.faulty(1, SIX.length(), SIX + "x");
        Run.faulty(3, SIX.length() + 5, SIX + "gone 6 0;");
    }

    private static void ninthCopy() {
        Run.about("the first TOKEN of the 7th BOOK, the 9th COPY");
        String eight = "plain 3;odd 3;" + "copy 0;copy 1 2;".repeat(4);
        Run.of(eight).due(8, "count", 1);
        for (String ninth : new String[] {"copy 0;", "copy 1 1;", "copy 7;", "copy", "copy x"}) {
            Run.faulty(2, eight.length(), eight + ninth);
        }
        Run.of(eight + "plain 3;gone 2 1;" + LEAD).due(8, "count", 1).due(3, "count", 0);
    }

    private static void sixtyFirstGone() {
        Run.about("a 61st LEAF that is GONE");
        String sixty = "plain 99;plain 99;gone 0" + Run.row(0, 30) + ";gone 1 5;gone 0" + Run.row(30, 60);
        Run.of(sixty + ";").due(60, "book", 0, 2).due(1, "book", 1, 2);
        Run.faulty(2, sixty.length() + 1, sixty + " 98;");
        Run.faulty(2, sixty.length() + 8, sixty + ";gone 0 98;");
        Run.of(sixty + ";gone 1 98;").due(2, "book", 1, 2);
        // What a copy misses doesn't count.
        Run.of(sixty + ";copy 0 98;copy 0 97;").due(60, "book", 0, 2);
    }

    private static void thirtyFirstMissed() {
        Run.about("a 31st that a COPY misses");
        String thirty = "plain 99;gone 0 98;copy 0" + Run.row(0, 30);
        Run.of(thirty + ";").due(1, "count", 1);
        Run.faulty(2, thirty.length() + 1, thirty + " 97;");
        Run.of(thirty + ";copy 0" + Run.row(0, 30) + ";gone 0" + Run.row(0, 40) + ";").due(2, "count", 1).due(41, "book", 0, 2);
        String second = thirty + ";copy 0" + Run.row(50, 80);
        Run.faulty(2, second.length() + 1, second + " 0;");
    }

    private static void bookNotToldAhead() {
        Run.about("3 a BOOK that isn't told ahead");
        for (String line : new String[] {"gone", "copy"}) {
            Run.faulty(3, 5, line + " 0 0;");
            Run.faulty(3, 5, line + " 0 0;plain 3;");
            Run.faulty(3, 13, "plain 3;" + line + " 1 0;plain 3;");
            Run.faulty(3, 13, "plain 3;" + line + " 6 0;");
            Run.faulty(3, 13, "plain 3;" + line + " 9999 0;");
            Run.fine("plain 3;" + line + " 0 0;");
            Run.fine("plain 3;plain 3;" + line + " 1 0;" + line + " 0 0;");
            Run.faulty(3, SIX.length() + 5, SIX + line + " 6 0;");
            Run.fine(SIX + line + " 5 0;");
        }
        // A text's own books count, not those of the shelf that stands.
        Run.of(SIX).fault(3, 5, "gone 0 0;").fault(3, 13, "plain 3;copy 1;");
    }

    private static void leafThatItHasNot() {
        Run.about("a LEAF that it hasn't");
        for (String line : new String[] {"gone", "copy"}) {
            Run.faulty(3, 15, "plain 3;" + line + " 0 3;");
            Run.faulty(3, 15, "plain 3;" + line + " 0 4;");
            Run.faulty(3, 15, "plain 3;" + line + " 0 9999;");
            Run.faulty(3, 21, "plain 3;" + line + " 0 0 1 2 3;");
            Run.fine("plain 3;" + line + " 0 0 1 2;");
            Run.fine("plain 2000;" + line + " 0 1999;");
            Run.faulty(3, 18, "plain 2000;" + line + " 0 2000;");
            // Each book has leaves of its own.
            Run.faulty(3, 23, "plain 9;plain 3;" + line + " 1 3;");
            Run.fine("plain 9;plain 3;" + line + " 0 3;");
        }
    }

    private static void wordThatIsNoValue() {
        Run.about("any word where a PART must stand that is no VALUE");
        for (String word : new String[] {"x", "pages", "pag", "leave", "plain", "by", "told", "lead", "and", "or", "gone"}) {
            Run.faulty(3, 10, "told 3 by " + word + ";");
            Run.faulty(3, 11, "told 3 by (" + word + ");");
            Run.faulty(3, 14, "told 3 by not " + word + ";");
            Run.faulty(3, 12, "told 3 by 1+" + word + ";");
            Run.faulty(3, 12, "told 3 by 1/" + word + ";");
            Run.faulty(3, 12, "told 3 by 1=" + word + ";");
            Run.faulty(3, 15, "told 3 by 1 or " + word + ";");
            Run.faulty(3, 16, "told 3 by 1 and " + word + ";");
            Run.faulty(3, 15, "told 3 by (((((" + word + ")))));");
        }
        for (String sign : new String[] {"+", "-", "*", "/", "<", "="}) {
            Run.faulty(3, 12, "told 3 by 1" + sign + "not 1;");
        }
        Run.fine("told 3 by page+leaf*side-leaves;");
    }

    private static void goneAlready() {
        Run.about("4 a LEAF that is GONE already, or that this COPY misses already");
        Run.faulty(4, 17, "plain 3;gone 0 1 1;");
        Run.faulty(4, 24, "plain 3;gone 0 1;gone 0 1;");
        Run.faulty(4, 19, "plain 3;copy 0 1 2 1;");
        // Another book's, another copy's leaf of the same number, and one that is gone where a copy misses it, are none.
        Run.fine("plain 3;plain 3;gone 0 1;gone 1 1;copy 0 1;copy 0 1;copy 1 1;");
        Run.fine("plain 3;copy 0 1;gone 0 1;");
        // Nor is what was gone on the shelf that stands.
        Run.of("plain 3;gone 0 1;").due(2, "tear", 0, 2).text(0, "plain 3;gone 0 1 2;").due(2, "book", 0, 2);
    }

    private static void secondLead() {
        Run.about("5 a second 'lead'");
        Run.faulty(5, 25, LEAD + LEAD);
        Run.faulty(5, 25, LEAD + "lead;");
        Run.faulty(5, 33, LEAD + "plain 3;" + "lead");
        Run.of(LEAD).text(0, LEAD).due(9, "count", 18);
        Run.of(LEAD).text(0, "plain 3;" + LEAD);
        new Run().fault(1, 5, "lead x").text(0, LEAD);
    }
}
