import java.math.BigInteger;
import java.util.ArrayList;
import java.util.Arrays;
import java.util.BitSet;
import java.util.List;
import java.util.NoSuchElementException;
import java.util.function.IntUnaryOperator;
import java.util.regex.Matcher;
import java.util.regex.Pattern;

/** The document read once more, in the plainest way and with all of the library: what ModelTest compares with. */
final class Model {
    static final class Fault extends RuntimeException {
        final int what;
        final int place;

        Fault(int what, int place) {
            this.what = what;
            this.place = place;
        }
    }

    static final class Book {
        String kind;
        int leaves;
        int mark;
        IntUnaryOperator rule;
        BitSet gone = new BitSet();

        int number(int page) {
            switch (kind) {
                case "roman": return Math.max(0, page - mark);
                case "odd": return 2 * page - 1;
                case "even": return 2 * page;
                case "skip": return numberWithout(page);
                case "told":
                    int given = rule.applyAsInt(page);
                    return given < 1 || given > 99999 ? 0 : given;
                default: return page;
            }
        }

        private int numberWithout(int n) {
            StringBuilder number = new StringBuilder();
            for (char digit : Integer.toString(n, 9).toCharArray()) {
                number.append(digit - '0' >= mark ? digit - '0' + 1 : digit - '0');
            }
            return Integer.parseInt(number.toString());
        }

        List<Integer> there() {
            List<Integer> there = new ArrayList<>();
            for (int leaf = 0; leaf < leaves; leaf++) {
                if (!gone.get(leaf)) {
                    there.add(leaf);
                }
            }
            return there;
        }
    }

    static final class Copy {
        int book;
        BitSet missing = new BitSet();
    }

    /** All that an image keeps. */
    static final class State {
        List<BitSet> gone = new ArrayList<>();
        List<int[]> torn = new ArrayList<>();
        List<Long> added = new ArrayList<>();
        int addedBook;
        List<int[]> stuck = new ArrayList<>();
        int[] status = new int[4];
    }

    static final List<String> KINDS = List.of("plain", "sewn", "roman", "odd", "even", "skip", "told");

    private final StringBuilder tape = new StringBuilder();
    private List<Book> books = new ArrayList<>();
    private List<Copy> copies = new ArrayList<>();
    private int[] lead = hundreds();
    private int faultPlace = -1;
    private List<int[]> torn = new ArrayList<>();
    private List<Long> added = new ArrayList<>();
    private int addedBook;
    private List<int[]> stuck = new ArrayList<>();
    private int[] status = new int[4];
    private int[] children;
    private int[] least;
    private State image;

    private static int[] hundreds() {
        int[] lead = new int[10];
        Arrays.fill(lead, 100);
        return lead;
    }

    private static <T> T noSuch() {
        throw new NoSuchElementException();
    }

    private static void illegalIf(boolean wrong) {
        if (wrong) {
            throw new IllegalArgumentException();
        }
    }

    int feed(int a, int b, int c, int d, int e) {
        if (tape.length() > 480) {
            return -1;
        }
        for (int four : new int[] {a, b, c, d, e}) {
            for (byte one : java.nio.ByteBuffer.allocate(4).putInt(four).array()) {
                tape.append((char) (one & 255));
            }
        }
        return tape.length();
    }

    int shelf(int n) {
        illegalIf(n < 0 || n > tape.length());
        String text = tape.substring(0, n);
        tape.setLength(0);
        try {
            Reader reader = new Reader(text);
            reader.shelf();
            books = reader.books;
            copies = reader.copies;
            lead = reader.lead == null ? hundreds() : reader.lead;
        } catch (Fault fault) {
            status[0]++;
            faultPlace = fault.place;
            return fault.what;
        }
        faultPlace = -1;
        torn = new ArrayList<>();
        added = new ArrayList<>();
        stuck = new ArrayList<>();
        children = null;
        least = null;
        image = null;
        return 0;
    }

    int fault() {
        return faultPlace;
    }

    int count(int what) {
        int[] counts = {books.size(), copies.size(), torn.size(), added.size(), tape.length(), status[0], status[1], status[2],
            status[3], stuck.size()};
        if (what < 0 || what > 19) {
            return noSuch();
        }
        return what < 10 ? counts[what] : lead[what - 10];
    }

    private Book of(int book) {
        return book < 0 || book >= books.size() ? noSuch() : books.get(book);
    }

    private Book ofLeaf(int book, int leaf) {
        return leaf < 0 || leaf >= of(book).leaves ? noSuch() : of(book);
    }

    private Book ofPage(int book, int page) {
        return page < 1 || page > 2 * of(book).leaves ? noSuch() : of(book);
    }

    int book(int book, int what) {
        Book found = of(book);
        if (what < 0 || what > 3) {
            return noSuch();
        }
        return new int[] {KINDS.indexOf(found.kind), found.leaves, found.gone.cardinality(), found.mark}[what];
    }

    boolean isThere(int book, int leaf) {
        return !ofLeaf(book, leaf).gone.get(leaf);
    }

    int number(int book, int page) {
        return ofPage(book, page).number(page);
    }

    int page(int book, int number) {
        Book found = of(book);
        for (int page = 1; page <= 2 * found.leaves; page++) {
            if (number > 0 && found.number(page) == number) {
                return page;
            }
        }
        return -1;
    }

    private long worth(Book book, int leaf) {
        return book.number(2 * leaf + 1) + book.number(2 * leaf + 2);
    }

    long sum(int book) {
        Book found = of(book);
        return found.there().stream().mapToLong(leaf -> worth(found, leaf)).sum();
    }

    private static int printed(int figure, long number) {
        return number < 1 ? 0 : (int) Long.toString(number).chars().filter(c -> figure == 10 || c - '0' == figure).count();
    }

    int figures(int book, int figure) {
        Book found = of(book);
        if (figure < 0 || figure > 10) {
            return noSuch();
        }
        int many = 0;
        for (int leaf : found.there()) {
            many += printed(figure, found.number(2 * leaf + 1)) + printed(figure, found.number(2 * leaf + 2));
        }
        return many;
    }

    int tear(int book, int leaf) {
        Book found = ofLeaf(book, leaf);
        return tearAll(book, found, leaf);
    }

    private int tearAll(int book, Book found, int... leaves) {
        for (int leaf : leaves) {
            if (found.gone.get(leaf) || found.gone.cardinality() + leaves.length > 60) {
                status[1]++;
                return -1;
            }
        }
        int[] row = new int[leaves.length + 1];
        row[0] = book;
        System.arraycopy(leaves, 0, row, 1, leaves.length);
        torn.add(row);
        for (int leaf : leaves) {
            found.gone.set(leaf);
        }
        return found.gone.cardinality();
    }

    int sheet(int book, int sheet) {
        Book found = of(book);
        if (sheet < 0 || sheet >= found.leaves / 2) {
            return noSuch();
        }
        if (found.leaves % 2 == 1) {
            status[1]++;
            return -1;
        }
        return tearAll(book, found, sheet, found.leaves - 1 - sheet);
    }

    int put() {
        if (torn.isEmpty()) {
            return -1;
        }
        int[] row = torn.remove(torn.size() - 1);
        for (int i = 1; i < row.length; i++) {
            books.get(row[0]).gone.clear(row[i]);
        }
        return row.length - 1;
    }

    int seed(int book, int seed, int k) {
        Book found = of(book);
        illegalIf(k < 0 || k > 60);
        if (k + found.gone.cardinality() > 60 || found.there().size() < k) {
            status[1]++;
            return -1;
        }
        BigInteger drawn = BigInteger.valueOf(seed);
        for (int i = 0; i < k; i++) {
            drawn = drawn.multiply(BigInteger.valueOf(1103515245)).add(BigInteger.valueOf(12345));
            int bits = drawn.shiftRight(16).mod(BigInteger.valueOf(32768)).intValue();
            List<Integer> there = found.there();
            tearAll(book, found, there.get(bits % there.size()));
        }
        return found.gone.cardinality();
    }

    boolean add(int book, long sum) {
        Book found = of(book);
        if (added.size() == 60 || added.size() == 2 * found.leaves || !added.isEmpty() && addedBook != book) {
            status[2]++;
            return false;
        }
        addedBook = book;
        added.add(sum);
        return sum == sumOf(found, added.size());
    }

    private long sumOf(Book book, int pages) {
        long sum = 0;
        for (int page = 1; page <= pages; page++) {
            sum += book.number(page);
        }
        return sum;
    }

    int wrong() {
        int first = -1;
        for (int i = added.size() - 1; i >= 0; i--) {
            first = added.get(i) == sumOf(books.get(addedBook), i + 1) ? first : i;
        }
        added.clear();
        return first;
    }

    private static List<long[]> allFits(long s) {
        List<long[]> fits = new ArrayList<>();
        long near = BigInteger.valueOf(2 * s).sqrt().longValueExact();
        for (long n = Math.max(1, near - 5); n <= near + 5; n++) {
            BigInteger out = BigInteger.valueOf(n).multiply(BigInteger.valueOf(n + 1)).shiftRight(1)
                    .subtract(BigInteger.valueOf(s));
            BigInteger[] leaf = out.subtract(BigInteger.valueOf(3)).divideAndRemainder(BigInteger.valueOf(4));
            boolean two = leaf[1].signum() == 0 && leaf[0].signum() >= 0 && 2 * leaf[0].longValueExact() + 2 <= n;
            if (two && out.signum() > 0) {
                fits.add(new long[] {n, leaf[0].longValueExact()});
            }
            if (n % 2 == 1 && out.equals(BigInteger.valueOf(n))) {
                fits.add(new long[] {n, (n - 1) / 2});
            }
        }
        return fits;
    }

    private static void needSum(long s) {
        illegalIf(s < 1 || s > 1000000000000000000L);
    }

    long fits(long s, int i) {
        needSum(s);
        List<long[]> fits = allFits(s);
        return i == -1 ? fits.size() : i < 0 || i >= fits.size() ? (Long) noSuch() : fits.get(i)[0];
    }

    long leaf(long s, int i) {
        needSum(s);
        List<long[]> fits = allFits(s);
        return i < 0 || i >= fits.size() ? (Long) noSuch() : fits.get(i)[1];
    }

    int whole(int book) {
        Book found = of(book);
        int best = -1;
        for (int chosen = 255; chosen >= 0; chosen--) {
            if (lacking(book, chosen, true) == 0 && (best < 0 || Integer.bitCount(chosen) <= Integer.bitCount(best))) {
                best = chosen;
            }
        }
        return best;
    }

    private int lacking(int book, int chosen, boolean strict) {
        BitSet lacking = (BitSet) books.get(book).gone.clone();
        for (int copy = 0; copy < 8; copy++) {
            if ((chosen >> copy & 1) != 0) {
                boolean is = copy < copies.size() && copies.get(copy).book == book;
                if (is) {
                    lacking.and(copies.get(copy).missing);
                } else if (strict) {
                    return 9999;
                }
            }
        }
        return lacking.cardinality();
    }

    int bought(int book) {
        of(book);
        return lacking(book, 255, false);
    }

    int index(int book, int number) {
        Book found = of(book);
        if (page(book, number) > 0) {
            return 0;
        }
        if (number < 1 || found.kind.equals("told")) {
            return -1;
        }
        // Small numbers alone: a longer book is tried leaf by leaf.
        for (int more = 1; more < 3000; more++) {
            int last = 2 * (found.leaves + more);
            boolean is = found.number(last) == number || found.number(last - 1) == number;
            if (is) {
                return found.kind.equals("sewn") ? more + more % 2 : more;
            }
        }
        return -1;
    }

    private boolean isHidden(int book, int page) {
        for (int[] one : stuck) {
            if (one[0] == book && (page == 2 * one[1] + 2 || page == 2 * one[1] + 3)) {
                return true;
            }
        }
        return false;
    }

    int stick(int book, int leaf) {
        Book found = ofLeaf(book, leaf);
        if (stuck.size() == 20 || leaf + 1 == found.leaves || found.gone.get(leaf) || found.gone.get(leaf + 1)
                || isHidden(book, 2 * leaf + 2) || isHidden(book, 2 * leaf + 3)) {
            status[3]++;
            return -1;
        }
        stuck.add(new int[] {book, leaf});
        return stuck.size();
    }

    int loosen() {
        if (stuck.isEmpty()) {
            return -1;
        }
        stuck.remove(stuck.size() - 1);
        return stuck.size();
    }

    long read(int book, int from, int to, int each, int buzz, boolean many) {
        Book found = ofPage(book, from);
        ofPage(book, to);
        illegalIf(to < from || each < 1 || each > 100 || buzz != 0 && (buzz < 2 || buzz > 9));
        long sum = 0;
        long count = 0;
        for (int page = from; page <= to; page += each) {
            int number = found.number(page);
            boolean isBuzz = buzz > 0 && (number % buzz == 0 || printed(buzz, number) > 0);
            if (!found.gone.get((page - 1) / 2) && !isHidden(book, page) && number > 0 && !isBuzz) {
                sum += number;
                count++;
            }
        }
        return many ? count : sum;
    }

    long shares(int book, int manyChildren) {
        Book found = of(book);
        illegalIf(manyChildren < 2 || manyChildren > 4);
        List<Integer> there = found.there();
        if (there.size() > 10) {
            return -2;
        }
        long best = Long.MAX_VALUE;
        for (int code = 0; code < Math.pow(manyChildren, there.size()); code++) {
            long[] hand = new long[manyChildren];
            int rest = code;
            for (int i = there.size() - 1; i >= 0; i--) {
                hand[rest % manyChildren] += worth(found, there.get(i));
                rest /= manyChildren;
            }
            long spread = Arrays.stream(hand).max().getAsLong() - Arrays.stream(hand).min().getAsLong();
            if (spread < best) {
                best = spread;
                children = rowOf(code, manyChildren, there.size());
            }
        }
        return best;
    }

    private static int[] rowOf(int code, int manyChildren, int size) {
        int[] row = new int[size];
        int rest = code;
        for (int i = size - 1; i >= 0; i--) {
            row[i] = rest % manyChildren;
            rest /= manyChildren;
        }
        return row;
    }

    int child(int i) {
        return children == null || i < 0 || i >= children.length ? (Integer) noSuch() : children[i];
    }

    int least(int book, long s) {
        Book found = of(book);
        illegalIf(s < 0 || s > 1000000000000000000L);
        List<Integer> there = found.there();
        if (there.size() > 30) {
            return -2;
        }
        for (int size = 0; size <= 4; size++) {
            int[] row = new int[size];
            if (choose(found, there, row, 0, 0, sum(book) - s)) {
                least = row;
                return size;
            }
        }
        return -1;
    }

    private boolean choose(Book book, List<Integer> there, int[] row, int place, int from, long out) {
        if (place == row.length) {
            return out == 0;
        }
        for (int i = from; i < there.size(); i++) {
            row[place] = there.get(i);
            if (choose(book, there, row, place + 1, i + 1, out - worth(book, there.get(i)))) {
                return true;
            }
        }
        return false;
    }

    int torn(int i) {
        return least == null || i < 0 || i >= least.length ? (Integer) noSuch() : least[i];
    }

    void image() {
        image = new State();
        books.forEach(book -> image.gone.add((BitSet) book.gone.clone()));
        image.torn.addAll(torn);
        image.added.addAll(added);
        image.addedBook = addedBook;
        image.stuck.addAll(stuck);
        image.status = status.clone();
    }

    boolean restore() {
        if (image == null) {
            return false;
        }
        for (int i = 0; i < books.size(); i++) {
            books.get(i).gone = (BitSet) image.gone.get(i).clone();
        }
        torn = new ArrayList<>(image.torn);
        added = new ArrayList<>(image.added);
        addedBook = image.addedBook;
        stuck = new ArrayList<>(image.stuck);
        status = image.status.clone();
        return true;
    }

    /** Reads a text by its tokens; the first fault is thrown. */
    static final class Reader {
        private static final Pattern TOKEN = Pattern.compile("[a-z]+|[0-9]+|[ \n]+|.", Pattern.DOTALL);
        private final List<String> tokens = new ArrayList<>();
        private final List<Integer> places = new ArrayList<>();
        private int at = 0;
        final List<Book> books = new ArrayList<>();
        final List<Copy> copies = new ArrayList<>();
        int[] lead;

        Reader(String text) {
            Matcher matcher = TOKEN.matcher(text);
            while (matcher.find()) {
                if (!matcher.group().isBlank() || matcher.group().matches("[^ \n]")) {
                    tokens.add(matcher.group());
                    places.add(matcher.start());
                }
            }
            tokens.add("");
            places.add(text.length());
        }

        private String token() {
            return tokens.get(at);
        }

        private Fault fault(int what) {
            return new Fault(what, places.get(at));
        }

        private boolean accept(String token) {
            if (token().equals(token)) {
                at++;
                return true;
            }
            return false;
        }

        private void need(String token) {
            if (!accept(token)) {
                throw fault(1);
            }
        }

        private boolean isNumber() {
            return token().matches("[0-9]+");
        }

        private boolean isWord() {
            return token().matches("[a-z]+");
        }

        private int number(int least, int most) {
            if (!isNumber()) {
                throw fault(1);
            }
            if (token().length() > 4 || Integer.parseInt(token()) < least || Integer.parseInt(token()) > most) {
                throw fault(2);
            }
            return Integer.parseInt(tokens.get(at++));
        }

        void shelf() {
            while (!token().isEmpty()) {
                line();
                need(";");
            }
        }

        private void line() {
            if (KINDS.contains(token())) {
                book();
            } else if (token().equals("gone")) {
                at++;
                BookAndIndex book = ahead();
                do {
                    leaf(book.book, book.book.gone, 60);
                } while (isNumber());
            } else if (token().equals("copy")) {
                copy();
            } else if (token().equals("lead")) {
                if (lead != null) {
                    throw fault(5);
                }
                at++;
                lead = new int[10];
                for (int i = 0; i < 10; i++) {
                    lead[i] = number(0, 9999);
                }
            } else {
                throw fault(1);
            }
        }

        private record BookAndIndex(Book book, int index) { }

        private BookAndIndex ahead() {
            int before = at;
            int index = number(0, 9999);
            if (index >= books.size()) {
                at = before;
                throw fault(3);
            }
            return new BookAndIndex(books.get(index), index);
        }

        private void leaf(Book book, BitSet set, int most) {
            if (isNumber() && set.cardinality() == most) {
                throw fault(2);
            }
            int leaf = number(0, 9999);
            if (leaf >= book.leaves || set.get(leaf)) {
                at--;
                throw fault(leaf >= book.leaves ? 3 : 4);
            }
            set.set(leaf);
        }

        private void copy() {
            if (copies.size() == 8) {
                throw fault(2);
            }
            at++;
            Copy copy = new Copy();
            copies.add(copy);
            BookAndIndex book = ahead();
            copy.book = book.index;
            while (isNumber()) {
                leaf(book.book, copy.missing, 30);
            }
        }

        private void book() {
            if (books.size() == 6) {
                throw fault(2);
            }
            Book book = new Book();
            book.kind = tokens.get(at++);
            if (book.kind.equals("roman")) {
                book.mark = number(0, 99);
            } else if (book.kind.equals("skip")) {
                book.mark = number(1, 9);
            }
            book.leaves = number(1, 2000);
            if (book.kind.equals("sewn") && book.leaves % 2 == 1) {
                at--;
                throw fault(2);
            }
            books.add(book);
            if (book.kind.equals("told")) {
                need("by");
                book.rule = expr(0, book.leaves);
            }
        }

        private IntUnaryOperator expr(int within, int leaves) {
            if (within == 6 && (isNumber() || isWord() || token().equals("("))) {
                throw fault(2);
            }
            IntUnaryOperator left = and(within, leaves);
            while (accept("or")) {
                IntUnaryOperator one = left;
                IntUnaryOperator two = and(within, leaves);
                left = page -> one.applyAsInt(page) != 0 | two.applyAsInt(page) != 0 ? 1 : 0;
            }
            return left;
        }

        private IntUnaryOperator and(int within, int leaves) {
            IntUnaryOperator left = not(within, leaves, 0);
            while (accept("and")) {
                IntUnaryOperator one = left;
                IntUnaryOperator two = not(within, leaves, 0);
                left = page -> one.applyAsInt(page) != 0 & two.applyAsInt(page) != 0 ? 1 : 0;
            }
            return left;
        }

        private IntUnaryOperator not(int within, int leaves, int nots) {
            if (token().equals("not")) {
                if (nots == 6) {
                    throw fault(2);
                }
                at++;
                IntUnaryOperator other = not(within, leaves, nots + 1);
                return page -> other.applyAsInt(page) == 0 ? 1 : 0;
            }
            IntUnaryOperator one = sum(within, leaves);
            if (accept("<")) {
                IntUnaryOperator two = sum(within, leaves);
                return page -> one.applyAsInt(page) < two.applyAsInt(page) ? 1 : 0;
            }
            if (accept("=")) {
                IntUnaryOperator two = sum(within, leaves);
                return page -> one.applyAsInt(page) == two.applyAsInt(page) ? 1 : 0;
            }
            return one;
        }

        private IntUnaryOperator sum(int within, int leaves) {
            IntUnaryOperator left = product(within, leaves);
            while (token().equals("+") || token().equals("-")) {
                int sign = tokens.get(at++).equals("+") ? 1 : -1;
                IntUnaryOperator one = left;
                IntUnaryOperator two = product(within, leaves);
                left = page -> one.applyAsInt(page) + sign * two.applyAsInt(page);
            }
            return left;
        }

        private IntUnaryOperator product(int within, int leaves) {
            IntUnaryOperator left = part(within, leaves);
            while (token().equals("*") || token().equals("/")) {
                boolean times = tokens.get(at++).equals("*");
                IntUnaryOperator one = left;
                IntUnaryOperator two = part(within, leaves);
                left = page -> {
                    int a = one.applyAsInt(page);
                    int b = two.applyAsInt(page);
                    return times ? a * b : b == 0 ? 0 : BigInteger.valueOf(a).divide(BigInteger.valueOf(b)).intValue();
                };
            }
            return left;
        }

        private IntUnaryOperator part(int within, int leaves) {
            if (isNumber()) {
                int number = number(0, 9999);
                return page -> number;
            }
            if (accept("(")) {
                IntUnaryOperator inner = expr(within + 1, leaves);
                need(")");
                return inner;
            }
            if (!isWord()) {
                throw fault(1);
            }
            switch (tokens.get(at++)) {
                case "page": return page -> page;
                case "leaf": return page -> (page + 1) / 2 - 1;
                case "side": return page -> 1 - page % 2;
                case "leaves": return page -> leaves;
                default:
                    at--;
                    throw fault(3);
            }
        }
    }
}
