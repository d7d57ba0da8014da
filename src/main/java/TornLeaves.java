import java.util.NoSuchElementException;

/** Books, the leaves torn out of them, and what can be told of what is left. */
public final class TornLeaves {
    public static final int NONE = -1;

    private static final int SPENT = -2;
    private static final int MOST_BYTES = 500;
    private static final int MOST_BOOKS = 6;
    private static final int MOST_LEAVES = 2000;
    private static final int MOST_PAGES = 4000;
    private static final int MOST_GONE = 60;
    private static final int MOST_COPIES = 8;
    private static final int MOST_MISSING = 30;
    private static final int MOST_TORN = 360;
    private static final int MOST_ADDED = 60;
    private static final int MOST_STUCK = 20;
    private static final int MOST_SHARED = 10;
    private static final int MOST_CHOICE = 30;
    private static final int MOST_OUT = 60;
    private static final int MOST_WAY_LEAVES = 30;
    private static final int MOST_CHILDREN = 4;
    private static final int MOST_LEAST = 4;
    private static final int MOST_WITHIN = 6;
    private static final int MOST_NOTS = 6;
    private static final int FIGURES = 10;
    private static final int ALL_FIGURES = 10;
    private static final int SAY_LEAVES = 11;
    private static final int MOST_TOLD_NUMBER = 99999;
    private static final int MOST_BACK = 99999999;
    private static final int BEYOND_LEAD = 100000;
    private static final int BEYOND_SPREAD = 1000000000;
    private static final long MOST_SUM = 1000000000000000000L;
    private static final long MOST_NUMBER = 1000000000000000L;
    private static final long BEYOND_ROOT = 2000000000L;

    private static final int PLAIN = 0;
    private static final int SEWN = 1;
    private static final int ROMAN = 2;
    private static final int ODD = 3;
    private static final int EVEN = 4;
    private static final int SKIP = 5;
    private static final int TOLD = 6;

    // A rule's code: a NUMBER stands for itself, all else is below 0.
    private static final int PUT_PAGE = -1;
    private static final int PUT_LEAF = -2;
    private static final int PUT_SIDE = -3;
    private static final int PUT_LEAVES = -4;
    private static final int NOT = -5;
    private static final int AND = -6;
    private static final int OR = -7;
    private static final int LESS = -8;
    private static final int SAME = -9;
    private static final int PLUS = -10;
    private static final int MINUS = -11;
    private static final int TIMES = -12;
    private static final int OVER = -13;

    private static final int REFUSED_TEXT = 0;
    private static final int REFUSED_TEAR = 1;
    private static final int REFUSED_SUM = 2;
    private static final int REFUSED_STICK = 3;

    private final int[] tape = new int[MOST_BYTES];
    private int tapeLength;
    private final ShelfReader reader = new ShelfReader(tape);
    private Shelf now = new Shelf();
    // A text is read into the spare shelf, so that a fault leaves the other one as it was.
    private Shelf spare = new Shelf();
    private int faultPlace = NONE;
    private final Events events = new Events();
    private final Events keptEvents = new Events();
    private boolean imageKept;
    // One more than what a told book's rule gives; 0 where it hasn't been worked out yet.
    private final int[] toldNumbers = new int[MOST_BOOKS * MOST_PAGES];
    private final int[] havers = new int[MOST_GONE];
    private final Fits fitting = new Fits();
    private final Ways waysOut = new Ways();
    private final Sharing sharing = new Sharing();
    private final Choice choice = new Choice();

    public TornLeaves() {
    }

    // ---- The tape and the shelf ----

    public int feed(int a, int b, int c, int d, int e) {
        if (tapeLength + 20 > MOST_BYTES) {
            return NONE;
        }
        feedFour(a);
        feedFour(b);
        feedFour(c);
        feedFour(d);
        feedFour(e);
        return tapeLength;
    }

    private void feedFour(int four) {
        for (int shift = 24; shift >= 0; shift -= 8) {
            setAt(tape, tapeLength, (four >>> shift) & 255);
            tapeLength++;
        }
    }

    public int shelf(int n) throws IllegalArgumentException {
        if (n < 0 || n > tapeLength) {
            throw new IllegalArgumentException("the tape has not so many bytes");
        }
        tapeLength = 0;
        int found = reader.readAll(n, spare);
        if (found != 0) {
            faultPlace = reader.place();
            events.refuse(REFUSED_TEXT);
            return found;
        }
        faultPlace = NONE;
        changeShelves();
        return 0;
    }

    private void changeShelves() {
        Shelf old = now;
        now = spare;
        spare = old;
        events.forget();
        imageKept = false;
        sharing.forget();
        choice.forget();
        for (int i = 0; i < toldNumbers.length; i++) {
            toldNumbers[i] = 0;
        }
    }

    public int fault() {
        return faultPlace;
    }

    public int count(int what) throws NoSuchElementException {
        if (what >= 10 && what < 10 + FIGURES) {
            return now.leadOf(what - 10);
        }
        switch (what) {
            case 0: return now.bookMany;
            case 1: return now.copyMany;
            case 2: return events.tornMany;
            case 3: return events.addedMany;
            case 4: return tapeLength;
            case 5: return events.refusedSoFar(REFUSED_TEXT);
            case 6: return events.refusedSoFar(REFUSED_TEAR);
            case 7: return events.refusedSoFar(REFUSED_SUM);
            case 8: return events.refusedSoFar(REFUSED_STICK);
            case 9: return events.stuckMany;
            default: throw new NoSuchElementException("nothing such is counted");
        }
    }

    // ---- Books ----

    private Book needBook(int book) throws NoSuchElementException {
        Book found = now.bookAt(book);
        if (found == null) {
            throw new NoSuchElementException("no such book");
        }
        return found;
    }

    private Book needLeaf(int book, int leaf) throws NoSuchElementException {
        Book found = needBook(book);
        if (!found.hasLeaf(leaf)) {
            throw new NoSuchElementException("no such leaf");
        }
        return found;
    }

    private Book needPage(int book, int page) throws NoSuchElementException {
        Book found = needBook(book);
        if (!found.hasPage(page)) {
            throw new NoSuchElementException("no such page");
        }
        return found;
    }

    private static void needFigure(int figure) throws NoSuchElementException {
        if (figure < 0 || figure > ALL_FIGURES) {
            throw new NoSuchElementException("no such figure");
        }
    }

    private static void needSum(long s) throws IllegalArgumentException {
        if (s < 1 || s > MOST_SUM) {
            throw new IllegalArgumentException("no such sum");
        }
    }

    private static void needWithin(long value, long least, long most) throws IllegalArgumentException {
        if (value < least || value > most) {
            throw new IllegalArgumentException("a number is too small or too great");
        }
    }

    public int book(int book, int what) throws NoSuchElementException {
        Book found = needBook(book);
        switch (what) {
            case 0: return found.kind;
            case 1: return found.leaves;
            case 2: return found.gone.size();
            case 3: return found.mark;
            default: throw new NoSuchElementException("nothing such is told of a book");
        }
    }

    public boolean isThere(int book, int leaf) throws NoSuchElementException {
        return !needLeaf(book, leaf).gone.has(leaf);
    }

    public int number(int book, int page) throws NoSuchElementException {
        return numberOn(book, needPage(book, page), page);
    }

    private int numberOn(int index, Book book, int page) {
        if (book.kind != TOLD) {
            return book.ownNumber(page);
        }
        int cell = index * MOST_PAGES + page - 1;
        int seen = at(toldNumbers, cell);
        if (seen == 0) {
            seen = now.toldNumber(book, page) + 1;
            setAt(toldNumbers, cell, seen);
        }
        return seen - 1;
    }

    private int leafSum(int index, Book book, int leaf) {
        return numberOn(index, book, 2 * leaf + 1) + numberOn(index, book, 2 * leaf + 2);
    }

    public int page(int book, int number) throws NoSuchElementException {
        Book found = needBook(book);
        long place = pageEver(book, found, number);
        return place <= 2L * found.leaves ? (int) place : NONE;
    }

    /** The least page that bears the number if the book were long enough. */
    private long pageEver(int index, Book book, int number) {
        if (number < 1) {
            return NONE;
        }
        if (book.kind != TOLD) {
            return book.pageBearing(number);
        }
        for (int page = 1; page <= 2 * book.leaves; page++) {
            if (numberOn(index, book, page) == number) {
                return page;
            }
        }
        return NONE;
    }

    public long sum(int book) throws NoSuchElementException {
        return sumLeft(book, needBook(book));
    }

    private long sumLeft(int index, Book book) {
        long all = 0;
        for (int leaf = 0; leaf < book.leaves; leaf++) {
            if (!book.gone.has(leaf)) {
                all += leafSum(index, book, leaf);
            }
        }
        return all;
    }

    public int figures(int book, int figure) throws NoSuchElementException {
        Book found = needBook(book);
        needFigure(figure);
        int many = 0;
        for (int page = 1; page <= 2 * found.leaves; page++) {
            if (!found.gone.has(leafOf(page))) {
                many += Figures.inNumber(figure, numberOn(book, found, page));
            }
        }
        return many;
    }

    private static int leafOf(int page) {
        return (page - 1) / 2;
    }

    // ---- Tearing and putting back ----

    public int tear(int book, int leaf) throws NoSuchElementException {
        Book found = needLeaf(book, leaf);
        if (found.gone.has(leaf) || found.gone.size() >= MOST_GONE) {
            return events.refuse(REFUSED_TEAR);
        }
        tearOut(book, found, leaf, NONE);
        return found.gone.size();
    }

    private void tearOut(int index, Book book, int leaf, int other) {
        book.gone.take(leaf);
        if (other != NONE) {
            book.gone.take(other);
        }
        events.noteTorn(index, leaf, other);
    }

    public int sheet(int book, int sheet) throws NoSuchElementException {
        Book found = needBook(book);
        if (sheet < 0 || sheet >= found.leaves / 2) {
            throw new NoSuchElementException("no such sheet");
        }
        int other = found.leaves - 1 - sheet;
        if (found.leaves % 2 != 0 || found.gone.has(sheet) || found.gone.has(other)
                || found.gone.size() > MOST_GONE - 2) {
            return events.refuse(REFUSED_TEAR);
        }
        tearOut(book, found, sheet, other);
        return found.gone.size();
    }

    public int put() {
        if (events.tornMany < 1) {
            return NONE;
        }
        events.tornMany--;
        int last = events.tornMany;
        Book book = now.bookAt(at(events.tornBook, last));
        if (book == null) {
            return NONE;
        }
        int other = at(events.tornOther, last);
        book.gone.give(at(events.tornLeaf, last));
        if (other == NONE) {
            return 1;
        }
        book.gone.give(other);
        return 2;
    }

    public int seed(int book, int seed, int k) throws NoSuchElementException, IllegalArgumentException {
        Book found = needBook(book);
        needWithin(k, 0, MOST_GONE);
        if (found.gone.size() + k > MOST_GONE || k > found.there()) {
            return events.refuse(REFUSED_TEAR);
        }
        int drawn = seed;
        for (int i = 0; i < k; i++) {
            drawn = drawn * 1103515245 + 12345;
            int there = found.there();
            if (there > 0) {
                tearOut(book, found, found.thereAt(((drawn >>> 16) & 32767) % there), NONE);
            }
        }
        return found.gone.size();
    }

    // ---- A child's sums ----

    public boolean add(int book, long sum) throws NoSuchElementException {
        Book found = needBook(book);
        int many = events.addedMany;
        if (many >= MOST_ADDED || many >= 2 * found.leaves || many > 0 && events.addedBook != book) {
            events.refuse(REFUSED_SUM);
            return false;
        }
        boolean right = sum == sumOfFirst(book, found, many + 1);
        events.noteAdded(book, right);
        return right;
    }

    private long sumOfFirst(int index, Book book, int pages) {
        long all = 0;
        for (int page = 1; page <= pages; page++) {
            all += numberOn(index, book, page);
        }
        return all;
    }

    public int wrong() {
        int first = events.firstWrong;
        events.forgetAdded();
        return first;
    }

    // ---- What a sum tells ----

    public long fits(long s, int i) throws NoSuchElementException, IllegalArgumentException {
        needSum(s);
        fitting.find(s);
        if (i == NONE) {
            return fitting.many;
        }
        needFit(i);
        return fitting.pagesAt(i);
    }

    public long leaf(long s, int i) throws NoSuchElementException, IllegalArgumentException {
        needSum(s);
        fitting.find(s);
        needFit(i);
        return fitting.leafAt(i);
    }

    private void needFit(int i) throws NoSuchElementException {
        if (i < 0 || i >= fitting.many) {
            throw new NoSuchElementException("no such fit");
        }
    }

    public long several(long s, int k, int i) throws NoSuchElementException, IllegalArgumentException {
        needSum(s);
        needWithin(k, 1, MOST_OUT);
        long without = Ways.largest(2, 1, 0, s);
        int many = 0;
        for (int more = 1; more <= k; more++) {
            if (Ways.canBeOut(s, k, without + more)) {
                if (many == i) {
                    return without + more;
                }
                many++;
            }
        }
        if (i != NONE) {
            throw new NoSuchElementException("no such number of leaves");
        }
        return many;
    }

    public long ways(long s, int k, int leaves) throws IllegalArgumentException {
        needSum(s);
        needWithin(k, 1, MOST_OUT);
        needWithin(leaves, 1, MOST_OUT);
        return waysOut.rows(k, leaves, Ways.leafTotal(s, k, leaves));
    }

    public long way(long s, int k, int leaves, long i) throws NoSuchElementException, IllegalArgumentException {
        needSum(s);
        needWithin(k, 1, MOST_OUT);
        needWithin(leaves, 1, MOST_WAY_LEAVES);
        long total = Ways.leafTotal(s, k, leaves);
        if (i < 0 || i >= waysOut.rows(k, leaves, total)) {
            throw new NoSuchElementException("no such way");
        }
        return waysOut.rowAt(k, leaves, total, i);
    }

    public long sewn(long s) throws IllegalArgumentException {
        needSum(s);
        // What is left of L leaves without a sheet is (2 L + 1) (L - 2).
        long leaves = Ways.largest(2, -3, -2, s);
        return leaves % 2 == 0 && (2 * leaves + 1) * (leaves - 2) == s ? leaves : NONE;
    }

    public long street(long s, int side, boolean which) throws NoSuchElementException, IllegalArgumentException {
        if (side != 0 && side != 1) {
            throw new NoSuchElementException("no such side");
        }
        needSum(s);
        long houses = Ways.largest(1, side, 0, s) + 1;
        long gone = houses * (houses + side) - s;
        if (gone % 2 == side) {
            return NONE;
        }
        return which ? gone : houses;
    }

    public int said(long s, int figure, long many) throws NoSuchElementException, IllegalArgumentException {
        needSum(s);
        needFigure(figure);
        fitting.find(s);
        int alike = 0;
        for (int i = 0; i < fitting.many; i++) {
            if (fitting.saying(i, figure) == many) {
                alike++;
            }
        }
        return alike;
    }

    public int tells(long s) throws IllegalArgumentException {
        needSum(s);
        fitting.find(s);
        for (int what = 0; what <= SAY_LEAVES; what++) {
            if (fitting.areUnlike(what)) {
                return what;
            }
        }
        return NONE;
    }

    // ---- Lead and figures ----

    public int far(int from) throws IllegalArgumentException {
        needWithin(from, 0, MOST_BACK);
        return lastPrinted(from);
    }

    private int lastPrinted(int from) {
        int good = from == 0 ? 0 : from + 1;
        int bad = from == 0 ? BEYOND_LEAD : 0;
        for (int round = 0; round < 32 && Math.abs(bad - good) > 1; round++) {
            int middle = good + (bad - good) / 2;
            boolean enough = from == 0 ? shortOf(1, middle) == NONE : shortOf(middle, from) == NONE;
            if (enough) {
                good = middle;
            } else {
                bad = middle;
            }
        }
        return good;
    }

    /** The least figure of which there isn't enough lead for all of these numbers. */
    private int shortOf(int first, int last) {
        for (int figure = 0; figure < FIGURES; figure++) {
            if (Figures.printed(figure, last) - Figures.printed(figure, first - 1) > now.leadOf(figure)) {
                return figure;
            }
        }
        return NONE;
    }

    public int lacks(int from) throws IllegalArgumentException {
        needWithin(from, 0, MOST_BACK);
        int last = lastPrinted(from);
        if (from == 0) {
            return shortOf(1, last + 1);
        }
        return last == 1 ? NONE : shortOf(last - 1, from);
    }

    public long skip(int f, long n, boolean which) throws IllegalArgumentException {
        needWithin(f, 1, 9);
        needWithin(n, 1, MOST_NUMBER);
        return which ? Figures.placeWithout(f, n) : Figures.standsWithout(f, n);
    }

    public long between(long a, long b, int figure) throws NoSuchElementException, IllegalArgumentException {
        needFigure(figure);
        needWithin(b, 1, MOST_NUMBER);
        needWithin(a, 1, b);
        return Figures.printed(figure, b) - Figures.printed(figure, a - 1);
    }

    // ---- Copies and indexes ----

    public int whole(int book) throws NoSuchElementException {
        Book found = needBook(book);
        int missing = findHavers(book, found);
        int best = NONE;
        for (int chosen = 0; chosen < 1 << MOST_COPIES; chosen++) {
            boolean fewer = best == NONE || Integer.bitCount(chosen) < Integer.bitCount(best);
            if (fewer && makesWhole(chosen, missing)) {
                best = chosen;
            }
        }
        return best;
    }

    /** Of each leaf that is gone the bits of the copies that have it; how many such leaves there are. */
    private int findHavers(int index, Book book) {
        int missing = 0;
        for (int leaf = 0; leaf < book.leaves; leaf++) {
            if (book.gone.has(leaf)) {
                setAt(havers, missing, now.copiesWith(index, leaf));
                missing++;
            }
        }
        return missing;
    }

    // Only copies that help are ever among the fewest, so copies of other books need no test.
    private boolean makesWhole(int chosen, int missing) {
        for (int i = 0; i < missing; i++) {
            if ((at(havers, i) & chosen) == 0) {
                return false;
            }
        }
        return true;
    }

    public int bought(int book) throws NoSuchElementException {
        int missing = findHavers(book, needBook(book));
        int many = 0;
        for (int i = 0; i < missing; i++) {
            if (at(havers, i) == 0) {
                many++;
            }
        }
        return many;
    }

    public int index(int book, int number) throws NoSuchElementException {
        Book found = needBook(book);
        long place = pageEver(book, found, number);
        if (place < 1) {
            return NONE;
        }
        long leaves = (place + 1) / 2;
        if (found.kind == SEWN && leaves % 2 != 0) {
            leaves++;
        }
        return leaves > found.leaves ? (int) (leaves - found.leaves) : 0;
    }

    // ---- Sticking and reading aloud ----

    public int stick(int book, int leaf) throws NoSuchElementException {
        Book found = needLeaf(book, leaf);
        if (events.stuckMany >= MOST_STUCK || !found.hasLeaf(leaf + 1) || found.gone.has(leaf)
                || found.gone.has(leaf + 1) || events.isStuck(book, leaf)) {
            return events.refuse(REFUSED_STICK);
        }
        return events.noteStuck(book, leaf);
    }

    public int loosen() {
        if (events.stuckMany < 1) {
            return NONE;
        }
        events.stuckMany--;
        return events.stuckMany;
    }

    public long read(int book, int from, int to, int each, int buzz, boolean many)
            throws NoSuchElementException, IllegalArgumentException {
        Book found = needPage(book, from);
        needPage(book, to);
        needWithin(to, from, MOST_PAGES);
        needWithin(each, 1, 100);
        if (buzz != 0) {
            needWithin(buzz, 2, 9);
        }
        long together = 0;
        int read = 0;
        int toPass = 0;
        for (int page = from; page <= to; page++) {
            int number = toPass == 0 ? numberRead(book, found, page, buzz) : 0;
            if (number > 0) {
                together += number;
                read++;
            }
            toPass = toPass == 0 ? each - 1 : toPass - 1;
        }
        return many ? read : together;
    }

    /** The number that is read aloud from a page; 0 if none is. */
    private int numberRead(int index, Book book, int page, int buzz) {
        int number = isSeen(index, book, page) ? numberOn(index, book, page) : 0;
        return Figures.isBuzz(buzz, number) ? 0 : number;
    }

    private boolean isSeen(int index, Book book, int page) {
        // Page 2 i + 2 sticks to page 2 i + 3.
        return !book.gone.has(leafOf(page)) && !events.isStuck(index, page / 2 - 1);
    }

    // ---- Leaves shared, and the fewest to tear ----

    public long shares(int book, int children) throws NoSuchElementException, IllegalArgumentException {
        Book found = needBook(book);
        needWithin(children, 2, MOST_CHILDREN);
        if (found.there() > MOST_SHARED) {
            return SPENT;
        }
        sharing.open(children);
        for (int leaf = 0; leaf < found.leaves; leaf++) {
            if (!found.gone.has(leaf)) {
                sharing.offer(leafSum(book, found, leaf));
            }
        }
        return sharing.share();
    }

    public int child(int i) throws NoSuchElementException {
        if (!sharing.hasKept(i)) {
            throw new NoSuchElementException("no such leaf is shared");
        }
        return sharing.childOf(i);
    }

    public int least(int book, long s) throws NoSuchElementException, IllegalArgumentException {
        Book found = needBook(book);
        needWithin(s, 0, MOST_SUM);
        if (found.there() > MOST_CHOICE) {
            return SPENT;
        }
        choice.open();
        for (int leaf = 0; leaf < found.leaves; leaf++) {
            if (!found.gone.has(leaf)) {
                choice.offer(leaf, leafSum(book, found, leaf));
            }
        }
        return choice.choose(sumLeft(book, found) - s);
    }

    public int torn(int i) throws NoSuchElementException {
        if (!choice.hasKept(i)) {
            throw new NoSuchElementException("no such leaf is kept");
        }
        return choice.keptLeaf(i);
    }

    // ---- The image ----

    public void image() {
        keptEvents.takeFrom(events);
        now.keepGone();
        imageKept = true;
    }

    public boolean restore() {
        if (!imageKept) {
            return false;
        }
        events.takeFrom(keptEvents);
        now.restoreGone();
        return true;
    }

    // ---- Rows that answer outside their bounds, too ----

    private static int at(int[] row, int i) {
        return i >= 0 && i < row.length ? row[i] : 0;
    }

    private static void setAt(int[] row, int i, int value) {
        if (i >= 0 && i < row.length) {
            row[i] = value;
        }
    }

    /** Leaves of one book, as bits. */
    private static final class LeafSet {
        private final int[] bits = new int[MOST_LEAVES / 32 + 1];
        private int many;

        int size() {
            return many;
        }

        boolean has(int leaf) {
            int cell = leaf >> 5;
            return cell >= 0 && cell < bits.length && (bits[cell] >>> (leaf & 31) & 1) != 0;
        }

        void take(int leaf) {
            int cell = leaf >> 5;
            int bit = 1 << (leaf & 31);
            if (cell >= 0 && cell < bits.length && (bits[cell] & bit) == 0) {
                bits[cell] |= bit;
                many++;
            }
        }

        void give(int leaf) {
            int cell = leaf >> 5;
            int bit = 1 << (leaf & 31);
            if (cell >= 0 && cell < bits.length && (bits[cell] & bit) != 0) {
                bits[cell] &= ~bit;
                many--;
            }
        }

        void empty() {
            for (int i = 0; i < bits.length; i++) {
                bits[i] = 0;
            }
            many = 0;
        }

        void takeFrom(LeafSet other) {
            for (int i = 0; i < bits.length; i++) {
                bits[i] = at(other.bits, i);
            }
            many = other.many;
        }
    }

    private static final class Book {
        int kind;
        int leaves;
        // R of a roman book, F of a skip one.
        int mark;
        int ruleFrom;
        int ruleTill;
        final LeafSet gone = new LeafSet();
        final LeafSet keptGone = new LeafSet();

        void begin(int newKind) {
            kind = newKind;
            leaves = 0;
            mark = 0;
            ruleFrom = 0;
            ruleTill = 0;
            gone.empty();
        }

        boolean hasLeaf(int leaf) {
            return leaf >= 0 && leaf < leaves;
        }

        boolean hasPage(int page) {
            return page >= 1 && page <= 2 * leaves;
        }

        int there() {
            return leaves - gone.size();
        }

        int thereAt(int i) {
            int passed = 0;
            for (int leaf = 0; leaf < leaves; leaf++) {
                if (!gone.has(leaf)) {
                    if (passed == i) {
                        return leaf;
                    }
                    passed++;
                }
            }
            return NONE;
        }

        /** The number on a page of any kind but a told one. */
        int ownNumber(int page) {
            switch (kind) {
                case ROMAN: return page > mark ? page - mark : 0;
                case ODD: return 2 * page - 1;
                case EVEN: return 2 * page;
                case SKIP: return (int) Figures.standsWithout(mark, page);
                default: return page;
            }
        }

        /** The page that bears a number, however long the book must be, of any kind but a told one. */
        long pageBearing(int number) {
            switch (kind) {
                case ROMAN: return (long) number + mark;
                case ODD: return number % 2 != 0 ? (number + 1L) / 2 : NONE;
                case EVEN: return number % 2 == 0 ? number / 2 : NONE;
                case SKIP: return Figures.placeWithout(mark, number);
                default: return number;
            }
        }
    }

    /** What a text tells: books, copies, lead, and the rules of told books. */
    private static final class Shelf {
        private final Book[] books = new Book[MOST_BOOKS];
        int bookMany;
        private final int[] copyBook = new int[MOST_COPIES];
        private final LeafSet[] copyMissing = new LeafSet[MOST_COPIES];
        int copyMany;
        private final int[] lead = new int[FIGURES];
        boolean leadTold;
        private final int[] code = new int[MOST_BYTES];
        int codeMany;
        private final int[] stack = new int[64];
        private int stackMany;

        Shelf() {
            for (int i = 0; i < books.length; i++) {
                books[i] = new Book();
            }
            for (int i = 0; i < copyMissing.length; i++) {
                copyMissing[i] = new LeafSet();
            }
            for (int i = 0; i < lead.length; i++) {
                lead[i] = 100;
            }
        }

        void clear() {
            bookMany = 0;
            copyMany = 0;
            leadTold = false;
            codeMany = 0;
            for (int i = 0; i < lead.length; i++) {
                lead[i] = 100;
            }
        }

        Book bookAt(int i) {
            return i >= 0 && i < bookMany && i < books.length ? books[i] : null;
        }

        /** The next book, or null if there are as many as there may be. */
        Book nextBook(int kind) {
            bookMany++;
            Book next = bookAt(bookMany - 1);
            if (next != null) {
                next.begin(kind);
            }
            return next;
        }

        LeafSet missingOf(int copy) {
            return copy >= 0 && copy < copyMany && copy < copyMissing.length ? copyMissing[copy] : null;
        }

        LeafSet nextCopy() {
            copyMany++;
            LeafSet next = missingOf(copyMany - 1);
            if (next != null) {
                next.empty();
            }
            return next;
        }

        void tellCopyOf(int book) {
            setAt(copyBook, copyMany - 1, book);
        }

        /** The copies of a book that have a leaf, as bits. */
        int copiesWith(int book, int leaf) {
            int with = 0;
            for (int copy = 0; copy < copyMany; copy++) {
                LeafSet missing = missingOf(copy);
                if (missing != null && at(copyBook, copy) == book && !missing.has(leaf)) {
                    with |= 1 << copy;
                }
            }
            return with;
        }

        int leadOf(int figure) {
            return at(lead, figure);
        }

        void tellLead(int figure, int many) {
            setAt(lead, figure, many);
        }

        void keepGone() {
            for (int i = 0; i < bookMany; i++) {
                Book book = bookAt(i);
                if (book != null) {
                    book.keptGone.takeFrom(book.gone);
                }
            }
        }

        void restoreGone() {
            for (int i = 0; i < bookMany; i++) {
                Book book = bookAt(i);
                if (book != null) {
                    book.gone.takeFrom(book.keptGone);
                }
            }
        }

        void write(int op) {
            setAt(code, codeMany, op);
            codeMany++;
        }

        /** The number that a told book's rule gives a page; 0 if none. */
        int toldNumber(Book book, int page) {
            stackMany = 0;
            for (int i = book.ruleFrom; i < book.ruleTill; i++) {
                int op = at(code, i);
                if (op >= PUT_LEAVES) {
                    push(op >= 0 ? op : valueOf(op, book, page));
                } else if (op == NOT) {
                    push(pop() == 0 ? 1 : 0);
                } else {
                    int right = pop();
                    push(combine(op, pop(), right));
                }
            }
            int given = pop();
            return given < 1 || given > MOST_TOLD_NUMBER ? 0 : given;
        }

        private void push(int value) {
            setAt(stack, stackMany, value);
            stackMany++;
        }

        private int pop() {
            stackMany--;
            return at(stack, stackMany);
        }

        private static int valueOf(int op, Book book, int page) {
            switch (op) {
                case PUT_PAGE: return page;
                case PUT_LEAF: return leafOf(page);
                case PUT_SIDE: return page % 2 == 0 ? 1 : 0;
                default: return book.leaves;
            }
        }

        private static int combine(int op, int left, int right) {
            switch (op) {
                case AND: return left != 0 && right != 0 ? 1 : 0;
                case OR: return left != 0 || right != 0 ? 1 : 0;
                case LESS: return left < right ? 1 : 0;
                case SAME: return left == right ? 1 : 0;
                case PLUS: return left + right;
                case MINUS: return left - right;
                case TIMES: return left * right;
                default: return right == 0 ? 0 : left / right;
            }
        }
    }

    /** The tokens of the tape's first bytes, one after another. */
    private static final class Tokens {
        // A sign is its own byte; what is none stands below the bytes, words stand above them.
        static final int END = -1;
        static final int NUMBER = -2;
        static final int FIRST_KIND = 256;
        static final int BY = 263;
        static final int GONE = 264;
        static final int COPY = 265;
        static final int LEAD = 266;
        static final int FIRST_VALUE = 267;
        static final int LAST_VALUE = 270;
        static final int NOT_WORD = 271;
        static final int AND_WORD = 272;
        static final int OR_WORD = 273;
        static final int OTHER_WORD = 274;
        // A number of five digits or more is kept as one more than this.
        static final int MOST_FOUR = 9999;

        private final int[] text;
        private int length;
        private final int[] whats = new int[MOST_BYTES + 1];
        private final int[] places = new int[MOST_BYTES + 1];
        private final int[] values = new int[MOST_BYTES + 1];
        private int many;
        private int current;

        Tokens(int[] tape) {
            text = tape;
        }

        private static String wordOf(int what) {
            switch (what) {
                case FIRST_KIND + PLAIN: return "plain";
                case FIRST_KIND + SEWN: return "sewn";
                case FIRST_KIND + ROMAN: return "roman";
                case FIRST_KIND + ODD: return "odd";
                case FIRST_KIND + EVEN: return "even";
                case FIRST_KIND + SKIP: return "skip";
                case FIRST_KIND + TOLD: return "told";
                case BY: return "by";
                case GONE: return "gone";
                case COPY: return "copy";
                case LEAD: return "lead";
                case FIRST_VALUE: return "page";
                case FIRST_VALUE + 1: return "leaf";
                case FIRST_VALUE + 2: return "side";
                case LAST_VALUE: return "leaves";
                case NOT_WORD: return "not";
                case AND_WORD: return "and";
                default: return "or";
            }
        }

        void open(int newLength) {
            length = newLength;
            many = 0;
            current = 0;
            int next = 0;
            for (int place = 0; place < length; place++) {
                if (place == next) {
                    next = readToken(place);
                }
            }
            note(END, length, 0);
        }

        private void note(int what, int place, int value) {
            setAt(whats, many, what);
            setAt(places, many, place);
            setAt(values, many, value);
            many++;
        }

        private int byteAt(int i) {
            return i >= 0 && i < length && i < text.length ? text[i] : END;
        }

        /** Notes what begins at a place, if it is no blank; where the next can begin. */
        private int readToken(int place) {
            int first = byteAt(place);
            if (isLetter(first)) {
                int end = endOfWord(place);
                note(whatWord(place, end), place, 0);
                return end;
            }
            if (isDigit(first)) {
                return readNumber(place);
            }
            if (first != 32 && first != 10) {
                note(first, place, 0);
            }
            return place + 1;
        }

        private static boolean isLetter(int b) {
            return b >= 'a' && b <= 'z';
        }

        private static boolean isDigit(int b) {
            return b >= '0' && b <= '9';
        }

        private int endOfWord(int place) {
            for (int i = place; i < length; i++) {
                if (!isLetter(byteAt(i))) {
                    return i;
                }
            }
            return length;
        }

        private int whatWord(int place, int end) {
            for (int what = FIRST_KIND; what < OTHER_WORD; what++) {
                if (isWord(wordOf(what), place, end)) {
                    return what;
                }
            }
            return OTHER_WORD;
        }

        private boolean isWord(String word, int place, int end) {
            if (end - place != word.length()) {
                return false;
            }
            for (int i = 0; i < word.length(); i++) {
                if (byteAt(place + i) != word.charAt(i)) {
                    return false;
                }
            }
            return true;
        }

        private int readNumber(int place) {
            int end = place;
            int value = 0;
            for (int i = place; i < length && isDigit(byteAt(i)); i++) {
                value = i - place >= 4 ? MOST_FOUR + 1 : 10 * value + byteAt(i) - '0';
                end = i + 1;
            }
            note(NUMBER, place, value);
            return end;
        }

        void advance() {
            current++;
        }

        int what() {
            return current >= 0 && current < whats.length ? whats[current] : END;
        }

        boolean is(int what) {
            return current >= 0 && current < whats.length && whats[current] == what;
        }

        int place() {
            return at(places, current);
        }

        int numberTold() {
            return current >= 0 && current < values.length ? values[current] : 0;
        }
    }

    /** Reads a text into a shelf, up to the first fault. */
    private static final class ShelfReader {
        private final Tokens tokens;
        private int found;

        ShelfReader(int[] tape) {
            tokens = new Tokens(tape);
        }

        int place() {
            return tokens.place();
        }

        /** 0, or the fault; the fault's token is the one that stays. */
        int readAll(int length, Shelf into) {
            found = 0;
            into.clear();
            tokens.open(length);
            for (int i = 0; i <= MOST_BYTES && found == 0 && !tokens.is(Tokens.END); i++) {
                if (readLine(into)) {
                    readSign(';');
                }
            }
            return found;
        }

        private boolean refuse(int what) {
            found = what;
            return false;
        }

        private boolean readSign(char sign) {
            if (!tokens.is(sign)) {
                return refuse(1);
            }
            tokens.advance();
            return true;
        }

        private boolean readLine(Shelf into) {
            switch (tokens.what()) {
                case Tokens.GONE: return readGone(into);
                case Tokens.COPY: return readCopy(into);
                case Tokens.LEAD: return readLead(into);
                default: return readBook(into);
            }
        }

        private boolean readBook(Shelf into) {
            int kind = tokens.what() - Tokens.FIRST_KIND;
            if (kind < PLAIN || kind > TOLD) {
                return refuse(1);
            }
            Book book = into.nextBook(kind);
            if (book == null) {
                return refuse(2);
            }
            tokens.advance();
            if (!readMark(book) || !readLeafCount(book)) {
                return false;
            }
            if (kind != TOLD) {
                return true;
            }
            if (!tokens.is(Tokens.BY)) {
                return refuse(1);
            }
            tokens.advance();
            book.ruleFrom = into.codeMany;
            boolean read = readOr(into, 0);
            book.ruleTill = into.codeMany;
            return read;
        }

        private boolean readMark(Book book) {
            if (book.kind != ROMAN && book.kind != SKIP) {
                return true;
            }
            book.mark = tokens.numberTold();
            return book.kind == ROMAN ? readWithin(0, 99) : readWithin(1, 9);
        }

        private boolean readLeafCount(Book book) {
            book.leaves = tokens.numberTold();
            if (book.kind == SEWN && book.leaves % 2 != 0) {
                return refuse(2);
            }
            return readWithin(1, MOST_LEAVES);
        }

        private boolean readWithin(int least, int most) {
            if (!tokens.is(Tokens.NUMBER)) {
                return refuse(1);
            }
            if (tokens.numberTold() < least || tokens.numberTold() > most) {
                return refuse(2);
            }
            tokens.advance();
            return true;
        }

        private int readBookIndex(Shelf into) {
            int index = tokens.numberTold();
            if (!tokens.is(Tokens.NUMBER)) {
                refuse(1);
            } else if (index > Tokens.MOST_FOUR) {
                refuse(2);
            } else if (into.bookAt(index) == null) {
                refuse(3);
            } else {
                tokens.advance();
                return index;
            }
            return NONE;
        }

        private boolean readGone(Shelf into) {
            tokens.advance();
            Book book = into.bookAt(readBookIndex(into));
            return book != null && readLeaf(book, book.gone, MOST_GONE)
                    && readLeaves(book, book.gone, MOST_GONE);
        }

        private boolean readCopy(Shelf into) {
            LeafSet missing = into.nextCopy();
            if (missing == null) {
                return refuse(2);
            }
            tokens.advance();
            int index = readBookIndex(into);
            into.tellCopyOf(index);
            Book book = into.bookAt(index);
            return book != null && readLeaves(book, missing, MOST_MISSING);
        }

        private boolean readLeaves(Book book, LeafSet set, int most) {
            for (int i = 0; i <= MOST_BYTES && tokens.is(Tokens.NUMBER); i++) {
                if (!readLeaf(book, set, most)) {
                    return false;
                }
            }
            return true;
        }

        private boolean readLeaf(Book book, LeafSet set, int most) {
            int leaf = tokens.numberTold();
            if (!tokens.is(Tokens.NUMBER)) {
                return refuse(1);
            }
            if (leaf > Tokens.MOST_FOUR || set.size() >= most) {
                return refuse(2);
            }
            if (!book.hasLeaf(leaf)) {
                return refuse(3);
            }
            if (set.has(leaf)) {
                return refuse(4);
            }
            set.take(leaf);
            tokens.advance();
            return true;
        }

        private boolean readLead(Shelf into) {
            if (into.leadTold) {
                return refuse(5);
            }
            into.leadTold = true;
            tokens.advance();
            for (int figure = 0; figure < FIGURES; figure++) {
                into.tellLead(figure, tokens.numberTold());
                if (!readWithin(0, Tokens.MOST_FOUR)) {
                    return false;
                }
            }
            return true;
        }

        private boolean readOr(Shelf into, int within) {
            if (within >= MOST_WITHIN) {
                int what = tokens.what();
                return refuse(what == Tokens.NUMBER || what == '(' || what >= Tokens.FIRST_KIND ? 2 : 1);
            }
            boolean read = readAnd(into, within);
            for (int i = 0; i <= MOST_BYTES && read && tokens.is(Tokens.OR_WORD); i++) {
                tokens.advance();
                read = readAnd(into, within);
                into.write(OR);
            }
            return read;
        }

        private boolean readAnd(Shelf into, int within) {
            boolean read = readNot(into, within);
            for (int i = 0; i <= MOST_BYTES && read && tokens.is(Tokens.AND_WORD); i++) {
                tokens.advance();
                read = readNot(into, within);
                into.write(AND);
            }
            return read;
        }

        private boolean readNot(Shelf into, int within) {
            int nots = 0;
            for (int i = 0; i < MOST_NOTS && tokens.is(Tokens.NOT_WORD); i++) {
                nots++;
                tokens.advance();
            }
            if (nots == MOST_NOTS && tokens.is(Tokens.NOT_WORD)) {
                return refuse(2);
            }
            boolean read = readTest(into, within);
            for (int i = 0; i < nots; i++) {
                into.write(NOT);
            }
            return read;
        }

        private boolean readTest(Shelf into, int within) {
            boolean read = readSum(into, within);
            boolean less = tokens.is('<');
            if (read && (less || tokens.is('='))) {
                tokens.advance();
                read = readSum(into, within);
                into.write(less ? LESS : SAME);
            }
            return read;
        }

        private boolean readSum(Shelf into, int within) {
            boolean read = readProduct(into, within);
            for (int i = 0; i <= MOST_BYTES && read && (tokens.is('+') || tokens.is('-')); i++) {
                int op = tokens.is('+') ? PLUS : MINUS;
                tokens.advance();
                read = readProduct(into, within);
                into.write(op);
            }
            return read;
        }

        private boolean readProduct(Shelf into, int within) {
            boolean read = readPart(into, within);
            for (int i = 0; i <= MOST_BYTES && read && (tokens.is('*') || tokens.is('/')); i++) {
                int op = tokens.is('*') ? TIMES : OVER;
                tokens.advance();
                read = readPart(into, within);
                into.write(op);
            }
            return read;
        }

        private boolean readPart(Shelf into, int within) {
            int what = tokens.what();
            if (what == '(') {
                tokens.advance();
                return readOr(into, within + 1) && readSign(')');
            }
            if (what == Tokens.NUMBER) {
                into.write(tokens.numberTold());
                return readWithin(0, Tokens.MOST_FOUR);
            }
            if (what < Tokens.FIRST_KIND) {
                return refuse(1);
            }
            if (what < Tokens.FIRST_VALUE || what > Tokens.LAST_VALUE) {
                return refuse(3);
            }
            into.write(PUT_PAGE - (what - Tokens.FIRST_VALUE));
            tokens.advance();
            return true;
        }
    }

    /** What has been done to the books of a shelf, and how often something was refused. */
    private static final class Events {
        final int[] tornBook = new int[MOST_TORN];
        final int[] tornLeaf = new int[MOST_TORN];
        // The sheet's other leaf; NONE where one leaf was torn.
        final int[] tornOther = new int[MOST_TORN];
        int tornMany;
        int addedBook;
        int addedMany;
        int firstWrong = NONE;
        private final int[] stuckBook = new int[MOST_STUCK];
        private final int[] stuckLeaf = new int[MOST_STUCK];
        int stuckMany;
        private final int[] refused = new int[4];

        void forget() {
            tornMany = 0;
            stuckMany = 0;
            forgetAdded();
        }

        void forgetAdded() {
            addedMany = 0;
            firstWrong = NONE;
        }

        int refuse(int what) {
            setAt(refused, what, at(refused, what) + 1);
            return NONE;
        }

        int refusedSoFar(int what) {
            return at(refused, what);
        }

        void noteTorn(int book, int leaf, int other) {
            setAt(tornBook, tornMany, book);
            setAt(tornLeaf, tornMany, leaf);
            setAt(tornOther, tornMany, other);
            tornMany++;
        }

        void noteAdded(int book, boolean right) {
            addedBook = book;
            if (!right && firstWrong == NONE) {
                firstWrong = addedMany;
            }
            addedMany++;
        }

        int noteStuck(int book, int leaf) {
            setAt(stuckBook, stuckMany, book);
            setAt(stuckLeaf, stuckMany, leaf);
            stuckMany++;
            return stuckMany;
        }

        /** Whether the leaf's back is stuck to the front of the next. */
        boolean isStuck(int book, int leaf) {
            for (int i = 0; i < stuckMany; i++) {
                if (at(stuckBook, i) == book && at(stuckLeaf, i) == leaf) {
                    return true;
                }
            }
            return false;
        }

        void takeFrom(Events other) {
            tornMany = other.tornMany;
            for (int i = 0; i < tornMany; i++) {
                setAt(tornBook, i, at(other.tornBook, i));
                setAt(tornLeaf, i, at(other.tornLeaf, i));
                setAt(tornOther, i, at(other.tornOther, i));
            }
            addedBook = other.addedBook;
            addedMany = other.addedMany;
            firstWrong = other.firstWrong;
            stuckMany = other.stuckMany;
            for (int i = 0; i < stuckMany; i++) {
                setAt(stuckBook, i, at(other.stuckBook, i));
                setAt(stuckLeaf, i, at(other.stuckLeaf, i));
            }
            for (int i = 0; i < refused.length; i++) {
                refused[i] = at(other.refused, i);
            }
        }
    }

    /** How figures are written in numbers. */
    private static final class Figures {
        static boolean isBuzz(int buzz, int number) {
            return buzz > 0 && (number % buzz == 0 || inNumber(buzz, number) > 0);
        }

        /** How often a figure (10: any) is written in a number; 0 is no number. */
        static int inNumber(int figure, long number) {
            int many = 0;
            long rest = number;
            for (int place = 0; place < 19 && rest > 0; place++) {
                if (figure == ALL_FIGURES || rest % 10 == figure) {
                    many++;
                }
                rest /= 10;
            }
            return many;
        }

        /** How often a figure (10: any) is written in 1, 2 .. last. */
        static long printed(int figure, long last) {
            long many = 0;
            long power = 1;
            for (int place = 0; place < 18 && power > 0 && power <= last; place++) {
                many += figure == ALL_FIGURES ? last - power + 1 : printedAt(figure, last, power);
                power *= 10;
            }
            return many;
        }

        /** How often a figure stands at the place of a power of ten in 1, 2 .. last. */
        private static long printedAt(int figure, long last, long power) {
            if (power < 1) {
                return 0;
            }
            // No number begins with 0, so 0 stands here only behind something above.
            long above = last / power / 10 - (figure == 0 ? 1 : 0);
            long here = last / power % 10;
            if (here > figure) {
                return (above + 1) * power;
            }
            return here == figure ? above * power + last % power + 1 : above * power;
        }

        /** The n-th number in which f isn't written: n to the base of nine, with the figures but f. */
        static long standsWithout(int f, long n) {
            long number = 0;
            long power = 1;
            long rest = n;
            for (int place = 0; place < 18 && rest > 0; place++) {
                long digit = rest % 9;
                number += (digit >= f ? digit + 1 : digit) * power;
                power *= 10;
                rest /= 9;
            }
            return number;
        }

        /** Which one without f a number is; NONE if f is written in it. */
        static long placeWithout(int f, long number) {
            long n = 0;
            long power = 1;
            long rest = number;
            for (int place = 0; place < 18 && rest > 0; place++) {
                long digit = rest % 10;
                if (digit == f) {
                    return NONE;
                }
                n += (digit > f ? digit - 1 : digit) * power;
                power *= 9;
                rest /= 10;
            }
            return n;
        }
    }

    /** The plain books of which one leaf is out that fit a sum. */
    private static final class Fits {
        private final long[] pages = new long[4];
        private final long[] leaf = new long[4];
        int many;

        void find(long s) {
            many = 0;
            // With the last page and the one before it out, what is left is at most s.
            long most = Ways.largest(1, 1, 0, 2 * s);
            findWith(s, most + 1);
            findWith(s, most + 2);
        }

        private void findWith(long s, long n) {
            long out = n * (n + 1) / 2 - s;
            if (out >= 3 && out % 4 == 3 && (out - 3) / 4 < n / 2) {
                keep(n, (out - 3) / 4);
            }
            if (n % 2 == 1 && out == n) {
                keep(n, n / 2);
            }
        }

        private void keep(long n, long which) {
            if (many >= 0 && many < pages.length && many < leaf.length) {
                pages[many] = n;
                leaf[many] = which;
                many++;
            }
        }

        long pagesAt(int i) {
            return i >= 0 && i < pages.length ? pages[i] : 0;
        }

        long leafAt(int i) {
            return i >= 0 && i < leaf.length ? leaf[i] : 0;
        }

        /** What is said of the i-th fit: a figure, all figures, or how many leaves there were. */
        long saying(int i, int what) {
            long n = pagesAt(i);
            if (what == SAY_LEAVES) {
                return (n + 1) / 2;
            }
            long front = 2 * leafAt(i) + 1;
            long left = Figures.printed(what, n) - Figures.inNumber(what, front);
            return front < n ? left - Figures.inNumber(what, front + 1) : left;
        }

        boolean areUnlike(int what) {
            for (int i = 1; i < many; i++) {
                for (int j = 0; j < i; j++) {
                    if (saying(i, what) == saying(j, what)) {
                        return false;
                    }
                }
            }
            return true;
        }
    }

    /** In which ways several leaves of two pages can be out. */
    private static final class Ways {
        private final long[] row = new long[MOST_OUT * MOST_OUT / 8 + 1];

        /** The largest x from 0 on with a x x + b x + c no more than s. */
        static long largest(int a, int b, int c, long s) {
            long good = 0;
            long bad = BEYOND_ROOT;
            for (int round = 0; round < 40 && bad - good > 1; round++) {
                long middle = (good + bad) / 2;
                if ((a * middle + b) * middle + c <= s) {
                    good = middle;
                } else {
                    bad = middle;
                }
            }
            return good;
        }

        /** What the numbers of k leaves that are out add up to if s is left; NONE if no k leaves do. */
        static long leafTotal(long s, int k, long leaves) {
            // The two pages of leaf i add up to 4 i + 3.
            long four = leaves * (2 * leaves + 1) - s - 3L * k;
            return four >= 0 && four % 4 == 0 ? four / 4 : NONE;
        }

        static boolean canBeOut(long s, int k, long leaves) {
            long total = leafTotal(s, k, leaves);
            long least = (long) k * (k - 1) / 2;
            return leaves >= k && total >= least && total <= least + k * (leaves - k);
        }

        /** How many rows of k rising leaves of so many have numbers that add up to a total. */
        long rows(int k, int leaves, long total) {
            if (k < 0 || k > leaves || leaves > MOST_OUT) {
                return 0;
            }
            long over = total - (long) k * (k - 1) / 2;
            long most = (long) k * (leaves - k);
            if (over < 0 || over > most) {
                return 0;
            }
            // It is the same from both ends, and the same for the leaves that stay.
            return coefficient(Math.min(k, leaves - k), leaves, (int) Math.min(over, most - over));
        }

        /** Of the power x to the place in the product of (1 - x^(leaves - k + t)) / (1 - x^t), t from 1 to k. */
        private long coefficient(int k, int leaves, int place) {
            if (place < 0 || place >= row.length) {
                return 0;
            }
            for (int i = 1; i <= place; i++) {
                row[i] = 0;
            }
            row[0] = 1;
            for (int t = 1; t <= k; t++) {
                int up = leaves - k + t;
                for (int i = place; up > 0 && i >= up; i--) {
                    row[i] -= row[i - up];
                }
                for (int i = t; i <= place; i++) {
                    row[i] += row[i - t];
                }
            }
            return row[place];
        }

        /** The i-th such row, as bits; there must be one. */
        long rowAt(int k, int leaves, long total, long i) {
            long bits = 0;
            long rest = i;
            long left = total;
            int wanted = k;
            for (int leaf = 0; leaf < leaves && wanted > 0; leaf++) {
                // The leaves behind this one, counted anew from 0 on.
                long with = rows(wanted - 1, leaves - leaf - 1, left - leaf - (wanted - 1L) * (leaf + 1));
                if (rest < with) {
                    bits |= 1L << leaf;
                    left -= leaf;
                    wanted--;
                } else {
                    rest -= with;
                }
            }
            return bits;
        }
    }

    /** Shares leaves among children so that no one has much more than another. */
    private static final class Sharing {
        private final int[] worth = new int[MOST_SHARED];
        private int many;
        private int children;
        private int total;
        private final int[] hand = new int[MOST_CHILDREN];
        private final int[] row = new int[MOST_SHARED];
        private int bestSpread;
        private final int[] kept = new int[MOST_SHARED];
        private int keptMany = NONE;

        void forget() {
            keptMany = NONE;
        }

        boolean hasKept(int i) {
            return i >= 0 && i < keptMany;
        }

        int childOf(int i) {
            return at(kept, i);
        }

        void open(int newChildren) {
            children = newChildren;
            many = 0;
            total = 0;
        }

        void offer(int sum) {
            setAt(worth, many, sum);
            many++;
            total += sum;
        }

        int share() {
            for (int i = 0; i < hand.length; i++) {
                hand[i] = 0;
            }
            bestSpread = BEYOND_SPREAD;
            deal(0, 0);
            keptMany = many;
            return bestSpread;
        }

        // Children who have nothing yet are alike, and the first of them makes the first row.
        private void deal(int place, int begun) {
            if (place >= many || place >= MOST_SHARED) {
                keepIfBetter();
                return;
            }
            int tried = Math.min(begun + 1, children);
            for (int child = 0; child < tried; child++) {
                dealTo(child, place, begun);
            }
        }

        private void dealTo(int child, int place, int begun) {
            int before = at(hand, child);
            int after = before + at(worth, place);
            setAt(row, place, child);
            setAt(hand, child, after);
            if (canBeBetter(after)) {
                deal(place + 1, child == begun ? begun + 1 : begun);
            }
            setAt(hand, child, before);
        }

        /** Whether one child may have so much: what is left over is shared among the others at best evenly. */
        private boolean canBeBetter(int most) {
            return bestSpread > 0 && children > 1 && most - (total - most) / (children - 1) < bestSpread;
        }

        private void keepIfBetter() {
            int most = at(hand, 0);
            int least = most;
            for (int child = 1; child < children; child++) {
                most = Math.max(most, at(hand, child));
                least = Math.min(least, at(hand, child));
            }
            if (most - least < bestSpread) {
                bestSpread = most - least;
                for (int i = 0; i < many; i++) {
                    setAt(kept, i, at(row, i));
                }
            }
        }
    }

    /** The fewest leaves that together are worth what must go. */
    private static final class Choice {
        private final int[] leaf = new int[MOST_CHOICE];
        private final int[] worth = new int[MOST_CHOICE];
        private int many;
        private final int[] row = new int[MOST_LEAST];
        private final int[] kept = new int[MOST_LEAST];
        private int keptMany = NONE;

        void forget() {
            keptMany = NONE;
        }

        boolean hasKept(int i) {
            return i >= 0 && i < keptMany;
        }

        int keptLeaf(int i) {
            return at(kept, i);
        }

        void open() {
            many = 0;
        }

        void offer(int which, int sum) {
            setAt(leaf, many, which);
            setAt(worth, many, sum);
            many++;
        }

        int choose(long out) {
            for (int size = 0; size <= MOST_LEAST; size++) {
                if (pick(size, 0, 0, out)) {
                    keptMany = size;
                    for (int i = 0; i < size; i++) {
                        setAt(kept, i, at(leaf, at(row, i)));
                    }
                    return size;
                }
            }
            return NONE;
        }

        private boolean pick(int size, int place, int from, long out) {
            if (place >= size || place >= MOST_LEAST) {
                return out == 0;
            }
            for (int i = from; i < many; i++) {
                if (pickWith(i, size, place, out)) {
                    return true;
                }
            }
            return false;
        }

        private boolean pickWith(int i, int size, int place, long out) {
            setAt(row, place, i);
            return at(worth, i) <= out && pick(size, place + 1, i + 1, out - at(worth, i));
        }
    }
}
