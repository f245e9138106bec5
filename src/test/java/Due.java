import java.util.ArrayList;
import java.util.List;
import java.util.NoSuchElementException;
import java.util.function.IntSupplier;

/** What the project's tests share: comparing answers with the due ones, and telling the outcome. */
final class Due {
    private static int wrong = 0;

    private Due() {
    }

    static void answer(String call, int got, int want) {
        if (got != want) {
            tell(call + " answered " + got + ", due is " + want);
        }
    }

    static void tell(String fault) {
        wrong++;
        System.out.println(fault);
    }

    /** The states of the virtual sections 0 .. 11, as a text of twelve digits. */
    static void states(String when, HybridTrack x, String want) {
        StringBuilder got = new StringBuilder();
        for (int section = 0; section < 12; section++) {
            got.append(x.state(section));
        }
        if (!got.toString().equals(want)) {
            tell("the states " + when + " are " + got + ", due is " + want);
        }
    }

    /** The call throws just that exception, and nothing that can be asked for has changed. */
    static void thrown(String call, HybridTrack x, Class<? extends RuntimeException> want, IntSupplier made) {
        List<Integer> before = allThatCanBeAsked(x);
        String got;
        try {
            got = "answered " + made.getAsInt();
        } catch (RuntimeException e) {
            got = e.getClass() == want ? null : "threw " + e.getClass().getSimpleName();
        }
        if (got != null) {
            tell(call + " " + got + ", due is " + want.getSimpleName());
        }
        if (!allThatCanBeAsked(x).equals(before)) {
            tell(call + " threw, and changed something");
        }
    }

    private static List<Integer> allThatCanBeAsked(HybridTrack x) {
        List<Integer> all = new ArrayList<>();
        for (int what = 0; what < 8; what++) {
            all.add(x.count(what));
        }
        for (int section = 0; section < 12; section++) {
            all.add(x.state(section));
        }
        for (int section = 0; section < 4; section++) {
            all.add(x.detected(section));
        }
        for (int vehicle = 0; vehicle < 8; vehicle++) {
            for (int what = 0; what < 6; what++) {
                all.add(askedOrLess(x, vehicle, what));
            }
        }
        return all;
    }

    private static int askedOrLess(HybridTrack x, int vehicle, int what) {
        try {
            return x.vehicle(vehicle, what);
        } catch (NoSuchElementException e) {
            return -1;
        }
    }

    static void end() {
        System.out.println(wrong == 0 ? "all answers are as due" : wrong + " answers are not as due");
        if (wrong != 0) {
            System.exit(1);
        }
    }
}
