import java.util.ArrayList;
import java.util.HashSet;
import java.util.List;
import java.util.NoSuchElementException;
import java.util.Set;

/** Counts tests and tells which fail; a test is a name and a body that may make several checks. */
final class Check {
    interface Body {
        void go() throws Exception;
    }

    static final Class<IllegalArgumentException> IAE = IllegalArgumentException.class;
    static final Class<IllegalStateException> ISE = IllegalStateException.class;
    static final Class<IndexOutOfBoundsException> IOOBE = IndexOutOfBoundsException.class;
    static final Class<NoSuchElementException> NSEE = NoSuchElementException.class;
    static final Class<ArithmeticException> AE = ArithmeticException.class;

    private static int passed = 0;
    private static int failed = 0;
    private static final Set<String> names = new HashSet<>();
    private static final List<String> wrong = new ArrayList<>();

    private Check() {
    }

    static void test(String name, Body body) {
        wrong.clear();
        if (!names.add(name)) {
            wrong.add("another test has this name");
        }
        try {
            body.go();
        } catch (Throwable thrown) {
            wrong.add("broke off with " + thrown);
        }
        if (wrong.isEmpty()) {
            passed++;
            return;
        }
        failed++;
        for (String line : wrong) {
            System.out.println("FAIL " + name + ": " + line);
        }
    }

    static boolean tell() {
        System.out.println(passed + " passed, " + failed + " failed");
        return failed == 0;
    }

    static void due(String call, long got, long want) {
        if (got != want) {
            wrong.add(call + " answered " + got + ", due is " + want);
        }
    }

    static void due(String call, double got, double want) {
        if (got != want) {
            wrong.add(call + " answered " + got + ", due is " + want);
        }
    }

    static void due(String call, String got, String want) {
        if (!got.equals(want)) {
            wrong.add(call + " answered \"" + got + "\", due is \"" + want + "\"");
        }
    }

    static void dueTrue(String what, boolean got) {
        if (!got) {
            wrong.add(what + " does not hold");
        }
    }

    /** The class must be the very one: a subclass would be the machine's own exception. */
    static void throwing(Class<? extends RuntimeException> want, String call, Body body) {
        try {
            body.go();
        } catch (Throwable thrown) {
            if (thrown.getClass() != want) {
                wrong.add(call + " threw " + thrown.getClass().getName() + ", due is " + want.getName());
            }
            return;
        }
        wrong.add(call + " threw nothing, due is " + want.getName());
    }

    /** Numbers that are too small or too large for a range: its neighbours, and the farthest there are. */
    static int[] outside(int least, int greatest) {
        return new int[] {least - 1, greatest + 1, Integer.MIN_VALUE, Integer.MAX_VALUE};
    }

    /** Like throwing, and the call must leave all that can be asked as it was. */
    static void refused(Class<? extends RuntimeException> want, String call, SongRefinery x, Body body) {
        String before = Look.at(x);
        throwing(want, call, body);
        due("the state after " + call, Look.at(x), before);
    }
}
