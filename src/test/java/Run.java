import java.lang.reflect.InvocationTargetException;
import java.lang.reflect.Method;
import java.util.Arrays;
import java.util.HashSet;
import java.util.NoSuchElementException;
import java.util.Set;

/** A run of calls on a new object, each with the answer that is due; calls are made by name, so that each can be printed. */
final class Run {
    // What an object answers to later calls is free, so no test leans on it.
    private static final int MOST_CALLS = 512;
    private static String sentence = "";
    private static final Set<String> SENTENCES = new HashSet<>();
    private static int wrong = 0;
    private static int made = 0;

    private Object x;
    private int calls = 0;
    private final boolean renewed;

    Run() {
        this(new TornLeaves());
    }

    Run(Object x) {
        this(x, false);
    }

    private Run(Object x, boolean renewed) {
        this.x = x;
        this.renewed = renewed;
    }

    /** Any number of calls that lean on nothing but their arguments: each 512 of them on a new object. */
    static Run free() {
        return new Run(new TornLeaves(), true);
    }

    /** What follows is about a sentence of the document, told in the document's own words. */
    static void about(String told) {
        sentence = told;
        SENTENCES.add(told);
        isTrue("the document says so", Document.words().contains(Document.wordsOf(told)));
    }

    /** A new object with a text on its shelf. */
    static Run of(String text) {
        return new Run().text(0, text);
    }

    Run due(long want, String call, Object... arguments) {
        return compare(Long.toString(want), call, arguments);
    }

    Run noSuch(String call, Object... arguments) {
        return compare(NoSuchElementException.class.getName(), call, arguments);
    }

    Run illegal(String call, Object... arguments) {
        return compare(IllegalArgumentException.class.getName(), call, arguments);
    }

    /** The text is fed, with blanks behind it, and read. */
    Run text(int want, String text) {
        feed(text);
        return due(want, "shelf", text.length());
    }

    /** A text without a fault, on a new object. */
    static void fine(String text) {
        new Run().fault(0, -1, text);
    }

    /** A text with a fault at a place, on a new object. */
    static void faulty(int want, int place, String text) {
        new Run().fault(want, place, text);
    }

    /** A text with a fault at its last byte, on a new object. */
    static void faultyAtEnd(int want, String text) {
        faulty(want, text.length() - 1, text);
    }

    /** Rising numbers from one to another (less 1), with a blank ahead of each. */
    static String row(int from, int to) {
        StringBuilder row = new StringBuilder();
        for (int i = from; i < to; i++) {
            row.append(' ').append(i);
        }
        return row.toString();
    }

    /** The same call on another run tells what is due. */
    String sameAs(Run other, String call, Object... arguments) {
        String want = other.answer(call, arguments);
        compare(want, call, arguments);
        return want;
    }

    /** A text with a fault at a place. */
    Run fault(int want, int place, String text) {
        text(want, text);
        return due(place, "fault");
    }

    Run feed(String text) {
        for (int i = 0; i < text.length(); i += 20) {
            Object[] five = new Object[5];
            for (int j = 0; j < 5; j++) {
                five[j] = fourAt(text, i + 4 * j);
            }
            answer("feed", five);
        }
        return this;
    }

    private static int fourAt(String text, int from) {
        int four = 0;
        for (int i = from; i < from + 4; i++) {
            four = four << 8 | (i < text.length() ? text.charAt(i) : ' ');
        }
        return four;
    }

    private Run compare(String want, String call, Object... arguments) {
        made++;
        String got = answer(call, arguments);
        if (!got.equals(want)) {
            tellWrong(call + Arrays.toString(arguments) + " answered " + got + ", due is " + want);
        }
        return this;
    }

    /** A call's answer as text: a number (of a boolean 1 or 0), or the name of the exception that it throws. */
    String answer(String call, Object... arguments) {
        countCall();
        try {
            Method method = find(call, arguments.length);
            Object got = method.invoke(x, fitted(method, arguments));
            if (got instanceof Boolean) {
                return (Boolean) got ? "1" : "0";
            }
            return got == null ? "0" : got.toString();
        } catch (InvocationTargetException e) {
            return e.getCause().getClass().getName();
        } catch (ReflectiveOperationException e) {
            throw new IllegalStateException(e);
        }
    }

    private void countCall() {
        calls++;
        if (calls > MOST_CALLS && renewed) {
            x = new TornLeaves();
            calls = 1;
        }
        if (calls == MOST_CALLS + 1 && x instanceof TornLeaves) {
            tellWrong("an object is used for more than " + MOST_CALLS + " calls");
        }
    }

    private Method find(String call, int arguments) throws NoSuchMethodException {
        for (Method method : x.getClass().getDeclaredMethods()) {
            if (method.getName().equals(call) && method.getParameterCount() == arguments) {
                method.setAccessible(true);
                return method;
            }
        }
        throw new NoSuchMethodException(call);
    }

    private static Object[] fitted(Method method, Object... arguments) {
        Object[] fitted = arguments.clone();
        Class<?>[] types = method.getParameterTypes();
        for (int i = 0; i < fitted.length; i++) {
            if (types[i] == long.class) {
                fitted[i] = ((Number) fitted[i]).longValue();
            } else if (types[i] == int.class) {
                fitted[i] = Math.toIntExact(((Number) fitted[i]).longValue());
            }
        }
        return fitted;
    }

    static void isTrue(String what, boolean holds) {
        made++;
        if (!holds) {
            tellWrong("not so: " + what);
        }
    }

    private static void tellWrong(String what) {
        wrong++;
        System.out.println(sentence.isEmpty() ? what : what + " (" + sentence + ")");
    }

    /** Says how it went, with exit code 1 if anything was wrong. */
    static void end(String test) {
        String about = SENTENCES.isEmpty() ? "" : " about " + SENTENCES.size() + " sentences";
        System.out.println(test + ": " + made + " answers" + about + ", " + wrong + " not as due");
        if (wrong != 0) {
            System.exit(1);
        }
    }
}
