import java.util.Random;

/** Drawn runs of calls, each answer compared with what the model answers; nothing but the document's exceptions is thrown. */
public final class ModelTest {
    private static final String[] WORDS = {"plain", "sewn", "roman", "odd", "even", "skip", "told", "by", "gone", "copy", "lead",
        "page", "leaf", "side", "leaves", "not", "and", "or", "x", "pages", ";", "(", ")", "+", "-", "*", "/", "<", "=", " ", "\n",
        "0", "1", "2", "3", "7", "12", "99", "2000", "2001", "9999", "10000", "00002", "!", "\u00e9", "\t"};
    private static int faults = 0;
    private static int shelves = 0;
    private static int answered = 0;

    public static void main(String[] args) {
        for (int seed = 0; seed < 900; seed++) {
            run(new Random(seed), 220);
        }
        for (int seed = 0; seed < 6000; seed++) {
            texts(new Random(1000 + seed));
        }
        Run.isTrue("texts with faults and without: " + faults + ", " + shelves, faults > 3000 && shelves > 3000);
        Run.isTrue("answers that are no exceptions: " + answered, answered > 100000);
        Run.end("ModelTest");
    }

    private static void run(Random random, int calls) {
        Run real = new Run();
        Run model = new Run(new Model());
        both(real, model, random, text(random));
        for (int i = 0; i < calls; i++) {
            if (random.nextInt(150) == 0) {
                both(real, model, random, random.nextInt(3) == 0 ? spoiled(random, text(random)) : text(random));
            } else {
                call(real, model, random);
            }
        }
    }

    private static void texts(Random random) {
        Run real = new Run();
        Run model = new Run(new Model());
        String text = text(random);
        both(real, model, random, random.nextInt(5) < 3 ? text : spoiled(random, text));
        int books = Integer.parseInt(same(real, model, "count", 0));
        same(real, model, "count", 1);
        for (int figure = 0; figure < 10; figure++) {
            same(real, model, "count", 10 + figure);
        }
        for (int book = 0; book < books; book++) {
            for (int what = 0; what < 4; what++) {
                same(real, model, "book", book, what);
            }
            same(real, model, "sum", book);
            same(real, model, "whole", book);
            same(real, model, "bought", book);
            same(real, model, "number", book, 1 + random.nextInt(6));
        }
    }

    private static void both(Run real, Run model, Random random, String text) {
        String cut = text.length() > 500 ? text.substring(0, 500) : text;
        same(real, model, "shelf", 0);
        real.feed(cut);
        model.feed(cut);
        same(real, model, "count", 4);
        String fault = same(real, model, "shelf", random.nextInt(50) == 0 ? cut.length() + 20 : cut.length());
        same(real, model, "fault");
        faults += fault.matches("[1-5]") ? 1 : 0;
        shelves += fault.equals("0") ? 1 : 0;
    }

    private static String same(Run real, Run model, String call, Object... arguments) {
        String want = model.answer(call, arguments);
        answered += want.matches("-?[0-9]+") ? 1 : 0;
        if (want.matches("-?[0-9]+")) {
            real.due(Long.parseLong(want), call, arguments);
        } else if (want.contains("NoSuchElement")) {
            real.noSuch(call, arguments);
        } else if (want.contains("IllegalArgument")) {
            real.illegal(call, arguments);
        } else {
            Run.isTrue("the model answers " + call + " with " + want, false);
        }
        return want;
    }

    private static int near(Random random, int most) {
        switch (random.nextInt(12)) {
            case 0: return -1;
            case 1: return most;
            case 2: return random.nextInt();
            case 3: return most - 1;
            default: return random.nextInt(Math.max(1, most));
        }
    }

    private static void call(Run real, Run model, Random random) {
        int books = Integer.parseInt(model.answer("count", 0));
        int book = random.nextInt(25) == 0 ? near(random, books) : random.nextInt(Math.max(1, books));
        String told = model.answer("book", book, 1);
        int leaves = told.matches("[0-9]+") ? Integer.parseInt(told) : 3;
        int leaf = near(random, leaves);
        int page = near(random, 2 * leaves + 1);
        String sum = model.answer("sum", book);
        long left = sum.matches("[0-9]+") ? Long.parseLong(sum) : 5;
        switch (random.nextInt(34)) {
            case 0, 1, 2, 3: same(real, model, "tear", book, leaf); break;
            case 4, 5: same(real, model, "sheet", book, near(random, leaves / 2)); break;
            case 6, 7: same(real, model, "put"); break;
            case 8: same(real, model, "seed", book, random.nextInt(), near(random, random.nextInt(5) == 0 ? 61 : 7)); break;
            case 9, 10, 11: added(real, model, random, book); break;
            case 12: same(real, model, random.nextInt(9) == 0 ? "wrong" : "fault"); break;
            case 13, 14: same(real, model, "stick", book, leaf); break;
            case 15: same(real, model, random.nextInt(3) == 0 ? "loosen" : "put"); break;
            case 16, 17: read(real, model, random, book, leaves); break;
            case 18: same(real, model, "shares", book, near(random, 6)); break;
            case 19: same(real, model, "child", near(random, 10)); break;
            case 20, 21: same(real, model, "least", book, left - random.nextInt(60) * (long) random.nextInt(7)); break;
            case 22: same(real, model, "torn", near(random, 4)); break;
            case 23: same(real, model, random.nextInt(4) == 0 ? "image" : "fault"); break;
            case 24: same(real, model, random.nextInt(4) == 0 ? "restore" : "fault"); break;
            case 25: same(real, model, "count", near(random, 20)); break;
            case 26: same(real, model, "book", book, near(random, 4)); break;
            case 27: same(real, model, "number", book, page); break;
            case 28: same(real, model, "page", book, near(random, 4 * leaves)); break;
            case 29: same(real, model, "figures", book, near(random, 11)); break;
            case 30: same(real, model, "index", book, random.nextInt(4000)); break;
            case 31: same(real, model, random.nextBoolean() ? "whole" : "bought", book); break;
            case 32: fits(real, model, random); break;
            default: same(real, model, random.nextBoolean() ? "sum" : "bought", book);
        }
        same(real, model, "isThere", book, leaf);
    }

    private static void added(Run real, Run model, Random random, int book) {
        int many = Integer.parseInt(model.answer("count", 3));
        long sum = 0;
        for (int page = 1; page <= many + 1; page++) {
            String number = model.answer("number", book, page);
            sum += number.matches("[0-9]+") ? Long.parseLong(number) : 0;
        }
        same(real, model, "add", book, random.nextInt(9) == 0 ? sum + random.nextInt(3) - 1 : sum);
    }

    private static void read(Run real, Run model, Random random, int book, int leaves) {
        int from = near(random, 2 * leaves + 1);
        int to = near(random, 2 * leaves + 1);
        int each = random.nextInt(3) == 0 ? near(random, 101) : 1;
        int buzz = random.nextInt(3) == 0 ? near(random, 10) : 0;
        boolean turned = from > to && random.nextInt(9) != 0;
        same(real, model, "read", book, turned ? to : from, turned ? from : to, each, buzz, random.nextBoolean());
    }

    private static void fits(Run real, Run model, Random random) {
        long s = random.nextBoolean() ? random.nextInt(300) : Math.floorMod(random.nextLong(), 1000000000000000001L);
        same(real, model, "fits", s, random.nextInt(5) - 1);
        same(real, model, "leaf", s, random.nextInt(4));
    }

    private static String text(Random random) {
        StringBuilder text = new StringBuilder();
        int books = random.nextInt(6) + 1;
        int[] leaves = new int[books];
        for (int book = 0; book < books; book++) {
            book(text, random, book, leaves);
        }
        for (int i = random.nextInt(3); i > 0; i--) {
            leaves(text.append("gone "), random, random.nextInt(books), leaves);
        }
        for (int i = random.nextInt(5); i > 0; i--) {
            leaves(text.append("copy "), random, random.nextInt(books), leaves);
        }
        if (random.nextInt(3) == 0) {
            text.append("lead");
            for (int figure = 0; figure < 10; figure++) {
                text.append(' ').append(random.nextInt(300));
            }
            text.append(";");
        }
        return text.toString();
    }

    private static void book(StringBuilder text, Random random, int book, int[] leaves) {
        int kind = random.nextInt(7);
        leaves[book] = 1 + random.nextInt(random.nextInt(3) == 0 ? 100 : 12);
        leaves[book] += kind == 1 ? leaves[book] % 2 : 0;
        text.append(Model.KINDS.get(kind)).append(' ');
        if (kind == 2 || kind == 5) {
            text.append(kind == 2 ? random.nextInt(9) : 1 + random.nextInt(9)).append(' ');
        }
        text.append(leaves[book]);
        if (kind == 6) {
            text.append(" by ").append(expr(random, random.nextInt(random.nextInt(5) + 1)));
        }
        text.append(random.nextInt(4) == 0 ? " ;\n" : ";");
    }

    private static void leaves(StringBuilder text, Random random, int book, int[] leaves) {
        text.append(book);
        int leaf = random.nextInt(leaves[book]);
        for (int i = 0; i < 5 && leaf < leaves[book]; i++) {
            text.append(' ').append(leaf);
            leaf += 1 + random.nextInt(3);
        }
        text.append(';');
    }

    private static String expr(Random random, int deep) {
        return joined(random, 6, deep);
    }

    /** What one level of the grammar (6 or, 5 and, 4 not, 3 a test, 2 a sum, 1 a product, 0 a part) can be. */
    private static String joined(Random random, int level, int deep) {
        boolean more = random.nextInt(3) == 0;
        switch (level) {
            case 6: return joined(random, 5, deep) + (more ? " or " + joined(random, 5, deep) : "");
            case 5: return joined(random, 4, deep) + (more ? "\nand " + joined(random, 4, deep) : "");
            case 4: return "not ".repeat(more ? random.nextInt(4) : 0) + joined(random, 3, deep);
            case 3: return joined(random, 2, deep) + (more ? (random.nextBoolean() ? "<" : " =") + joined(random, 2, deep) : "");
            case 2: return joined(random, 1, deep) + (more ? (random.nextBoolean() ? " +" : "- ") + joined(random, 1, deep) : "");
            case 1: return joined(random, 0, deep) + (more ? (random.nextBoolean() ? "*" : "/") + joined(random, 0, deep) : "");
            default: return part(random, deep);
        }
    }

    private static String part(Random random, int deep) {
        switch (random.nextInt(deep > 0 ? 8 : 6)) {
            case 0: return "leaf";
            case 1: return "side";
            case 2: return "leaves";
            case 3: return Integer.toString(random.nextInt(random.nextBoolean() ? 10 : 9999));
            case 4, 5: return "page";
            default: return "(" + joined(random, 6, deep - 1) + ")";
        }
    }

    private static String spoiled(Random random, String text) {
        StringBuilder spoiled = new StringBuilder(text);
        for (int i = random.nextInt(3) + 1; i > 0; i--) {
            int place = random.nextInt(spoiled.length() + 1);
            switch (random.nextInt(4)) {
                case 0: spoiled.setLength(Math.max(1, place)); break;
                case 1: spoiled.delete(place, Math.min(spoiled.length(), place + 1 + random.nextInt(5))).append(' '); break;
                default: spoiled.insert(place, " " + WORDS[random.nextInt(WORDS.length)] + (random.nextBoolean() ? " " : ""));
            }
        }
        return spoiled.toString();
    }
}
