import java.lang.reflect.InvocationTargetException;
import java.lang.reflect.Method;
import java.lang.reflect.Modifier;
import java.util.Map;
import java.util.TreeMap;

/**
 * What the tests of the edges share. A test is a static method without parameters whose name begins with
 * the promise whose sentence it holds to ("promise02_.."), or with the part of the Terms ("terms1_..").
 */
final class Edges {
    static final int NONE = MinuteBehind.NONE, UNKNOWN = MinuteBehind.UNKNOWN,
        OUTSIDE = MinuteBehind.OUTSIDE, NOT = MinuteBehind.NOT, FULL = MinuteBehind.FULL;
    /** An object is used for at most so many calls. */
    static final int CALLS_AT_MOST = 512;

    private static int wrong = 0;
    private static String test = "";

    private Edges() {
    }

    static void due(int got, int want) {
        if (got != want) {
            fail("answered " + got + ", due is " + want);
        }
    }

    static void fail(String what) {
        wrong++;
        System.out.println(test + ", line " + lineOfTest() + ": " + what);
    }

    private static int lineOfTest() {
        for (StackTraceElement at : new Throwable().getStackTrace()) {
            if (at.getMethodName().equals(test)) {
                return at.getLineNumber();
            }
        }
        return 0;
    }

    static void write(MinuteBehind x, String text) {
        for (int at = 0; at < text.length(); at += 8) {
            int n = Math.min(8, text.length() - at);
            due(x.write(bytes(text.substring(at, at + n)), n) > 0 ? 1 : 0, 1);
        }
    }

    static long bytes(String text) {
        long all = 0;
        for (int i = 0; i < text.length(); i++) {
            all |= (long) (text.charAt(i) & 255) << 8 * i;
        }
        return all;
    }

    /** A new object to which the texts were told, each without a fault. */
    static MinuteBehind told(String... texts) {
        MinuteBehind x = new MinuteBehind();
        for (String text : texts) {
            tell(x, text);
        }
        return x;
    }

    static void tell(MinuteBehind x, String text) {
        write(x, text);
        due(x.street(), text.split(";").length);
    }

    /** The fault of a text, told to a new object. */
    static int fault(String text) {
        return fault(new MinuteBehind(), text);
    }

    static int fault(MinuteBehind x, String text) {
        x.erase();
        write(x, text);
        int place = x.fault();
        x.erase();
        return place;
    }

    /** Each has no fault, told to a new object. */
    static void taken(String... texts) {
        for (String text : texts) {
            due(fault(text), NONE);
        }
    }

    /** Waits on till the true time is the told one, above what it is now. */
    static void awaitTill(MinuteBehind x, int time) {
        for (int times = 0; times < 12 && x.here(1) < time; times++) {
            x.await(Math.min(9999, time - x.here(1)));
        }
        due(x.here(1), time);
    }

    /** Runs every test of a class; each promise from the first to the last must have one. */
    static void run(Class<?> tests, int firstPromise, int lastPromise) {
        Map<String, Method> byName = new TreeMap<>();
        for (Method method : tests.getDeclaredMethods()) {
            if (method.getName().matches("(promise\\d\\d|terms\\d)_.+")) {
                byName.put(method.getName(), method);
            }
        }
        for (Method method : byName.values()) {
            runOne(method);
        }
        for (int promise = firstPromise; promise <= lastPromise; promise++) {
            String begin = String.format("promise%02d_", promise);
            if (byName.keySet().stream().noneMatch(name -> name.startsWith(begin))) {
                test = begin;
                fail("no test of this promise");
            }
        }
        System.out.println(byName.size() + " tests of " + tests.getName()
            + (wrong == 0 ? " hold" : ": " + wrong + " answers are not as due"));
        if (wrong != 0) {
            System.exit(1);
        }
    }

    private static void runOne(Method method) {
        test = method.getName();
        if (!Modifier.isStatic(method.getModifiers()) || method.getParameterCount() != 0) {
            fail("a test is static and has no parameters");
            return;
        }
        try {
            method.setAccessible(true);
            method.invoke(null);
        } catch (InvocationTargetException thrown) {
            fail("threw " + thrown.getCause());
        } catch (IllegalAccessException hidden) {
            fail("cannot be run");
        }
    }
}
