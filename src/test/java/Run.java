import java.lang.reflect.InvocationTargetException;
import java.lang.reflect.Method;
import java.util.Arrays;
import java.util.NoSuchElementException;

/** A run of calls on a new object, each with the answer that is due; calls are made by name, so that each can be printed. */
final class Run {
    private static int wrong = 0;
    private static int made = 0;

    final Object x;

    Run() {
        this(new TornLeaves());
    }

    Run(Object x) {
        this.x = x;
    }

    /** A new object with a text on its shelf. */
    static Run of(String text) {
        return new Run().text(0, text);
    }

    Run due(long want, String call, Object... arguments) {
        return compare(Long.toString(want), call, arguments);
    }

    Run noSuch(String call, Object... arguments) {
        return compare(NoSuchElementException.class.getName(), call, arguments);
    }

    Run illegal(String call, Object... arguments) {
        return compare(IllegalArgumentException.class.getName(), call, arguments);
    }

    /** The text is fed, with blanks behind it, and read. */
    Run text(int want, String text) {
        feed(text);
        return due(want, "shelf", text.length());
    }

    /** A text with a fault at a place. */
    Run fault(int want, int place, String text) {
        text(want, text);
        return due(place, "fault");
    }

    Run feed(String text) {
        for (int i = 0; i < text.length(); i += 20) {
            Object[] five = new Object[5];
            for (int j = 0; j < 5; j++) {
                five[j] = fourAt(text, i + 4 * j);
            }
            answer("feed", five);
        }
        return this;
    }

    private static int fourAt(String text, int from) {
        int four = 0;
        for (int i = from; i < from + 4; i++) {
            four = four << 8 | (i < text.length() ? text.charAt(i) : ' ');
        }
        return four;
    }

    private Run compare(String want, String call, Object... arguments) {
        made++;
        String got = answer(call, arguments);
        if (!got.equals(want)) {
            wrong++;
            System.out.println(call + Arrays.toString(arguments) + " answered " + got + ", due is " + want);
        }
        return this;
    }

    /** A call's answer as text: a number (of a boolean 1 or 0), or the name of the exception that it throws. */
    String answer(String call, Object... arguments) {
        try {
            Method method = find(call, arguments.length);
            Object got = method.invoke(x, fitted(method, arguments));
            if (got instanceof Boolean) {
                return (Boolean) got ? "1" : "0";
            }
            return got == null ? "0" : got.toString();
        } catch (InvocationTargetException e) {
            return e.getCause().getClass().getName();
        } catch (ReflectiveOperationException e) {
            throw new IllegalStateException(e);
        }
    }

    private Method find(String call, int arguments) throws NoSuchMethodException {
        for (Method method : x.getClass().getDeclaredMethods()) {
            if (method.getName().equals(call) && method.getParameterCount() == arguments) {
                method.setAccessible(true);
                return method;
            }
        }
        throw new NoSuchMethodException(call);
    }

    private static Object[] fitted(Method method, Object... arguments) {
        Object[] fitted = arguments.clone();
        Class<?>[] types = method.getParameterTypes();
        for (int i = 0; i < fitted.length; i++) {
            if (types[i] == long.class) {
                fitted[i] = ((Number) fitted[i]).longValue();
            } else if (types[i] == int.class) {
                fitted[i] = Math.toIntExact(((Number) fitted[i]).longValue());
            }
        }
        return fitted;
    }

    static void isTrue(String what, boolean holds) {
        made++;
        if (!holds) {
            wrong++;
            System.out.println("not so: " + what);
        }
    }

    /** Says how it went, with exit code 1 if anything was wrong. */
    static void end(String test) {
        System.out.println(test + ": " + made + " answers, " + wrong + " not as due");
        if (wrong != 0) {
            System.exit(1);
        }
    }
}
