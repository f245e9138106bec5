import java.lang.reflect.Method;
import java.util.Arrays;
import java.util.Comparator;
import java.util.function.IntSupplier;

/** What the project's tests share: comparing answers with the due ones, and telling the outcome. */
final class Due {
    private static int wrong = 0;

    private Due() {
    }

    static void answer(String call, int got, int want) {
        if (got != want) {
            tell(call + " answered " + got + ", due is " + want);
        }
    }

    static void tell(String fault) {
        wrong++;
        System.out.println(fault);
    }

    /** The states of the virtual sections 0 .. 11, as a text of twelve digits. */
    static void states(String when, HybridTrack x, String want) {
        StringBuilder got = new StringBuilder();
        for (int section = 0; section < 12; section++) {
            got.append(x.state(section));
        }
        if (!got.toString().equals(want)) {
            tell("the states " + when + " are " + got + ", due is " + want);
        }
    }

    /** The call throws just that exception. */
    static void thrown(String call, Class<? extends RuntimeException> want, IntSupplier made) {
        String got;
        try {
            got = "answered " + made.getAsInt();
        } catch (RuntimeException e) {
            got = e.getClass() == want ? null : "threw " + e.getClass().getSimpleName();
        }
        if (got != null) {
            tell(call + " " + got + ", due is " + want.getSimpleName());
        }
    }

    /** Runs every method of a class whose name begins with that of a promise, or of the terms. */
    static void runAll(Class<?> tests) {
        Method[] all = tests.getDeclaredMethods();
        // Their order is not told by Java, and a fault should be told in the same order each time.
        Arrays.sort(all, Comparator.comparing(Method::getName));
        int ran = 0;
        for (Method test : all) {
            if (test.getName().startsWith("promise") || test.getName().startsWith("terms")) {
                run(test);
                ran++;
            }
        }
        System.out.println(ran + " tests of sentences");
    }

    private static void run(Method test) {
        try {
            test.invoke(null);
        } catch (ReflectiveOperationException e) {
            tell(test.getName() + " can't be run: " + e.getCause());
        }
    }

    static void end() {
        System.out.println(wrong == 0 ? "all answers are as due" : wrong + " answers are not as due");
        if (wrong != 0) {
            System.exit(1);
        }
    }
}
