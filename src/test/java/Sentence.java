import java.io.IOException;
import java.nio.file.Files;
import java.nio.file.Path;

/** A sentence of the document, or a part of one, whose bounds a test tries; it is told with each fault. */
final class Sentence {
    static final String ARGUMENT = "throws.IllegalArgumentException";
    static final String STATE = "throws.IllegalStateException";
    static final String NO_SUCH = "throws.NoSuchElementException";

    static final String EMPTY = "";
    /** Eight trains on all 120 places. */
    static final String FULL = "enter(9, 10) enter(19, 10) enter(29, 10) enter(39, 10)"
        + " enter(59, 20) enter(79, 20) enter(99, 20) enter(119, 20) ";
    /**
     * Train 0 on 22 .. 27, not whole, speed 2, END 59; its wagon 1 on 16 .. 19. Train 2 on 90 .. 104, not whole, speed 5, silent;
     * its wagon 3 was taken off, so that sections 6 to 8 are UNKNOWN until states are found anew, and then FREE.
     */
    static final String MIXED = "enter(25, 10) lose(0, 4) enter(104, 20) lose(2, 5) tick(1)"
        + " authorise(0) drive(0, 2) drive(2, 5) silence(2, true) tick(1) clear(3) ";
    /** Train 0 on 34, END 34, and seven more; sections 0 to 2 are UNKNOWN until states are found anew, and then FREE. */
    static final String EIGHT_CAME = "enter(34, 10) lose(0, 5) tick(1) enter(119, 1) enter(105, 1)"
        + " lose(0, 1) lose(0, 1) lose(0, 1) enter(95, 1) clear(1) ";

    private static final Path DOCUMENT = Path.of("../shared/DOC.md");
    private static final String STATES = ofEach("state(#)", 12);
    private static final String QUESTIONS = STATES + ofEach("count(#)", 8) + ofEach("detected(#)", 4)
        + ofEach("vehicle(#, 0) vehicle(#, 1) vehicle(#, 2) vehicle(#, 3) vehicle(#, 4) vehicle(#, 5)", 8);
    private static final String[] LATER = allThatMayComeLater();

    private final String where;

    /** The heading is "Promise 2" or "Terms"; the words stand below it in the document. */
    Sentence(String heading, String words) {
        where = heading + ", \"" + words + "\": ";
        if (Files.exists(DOCUMENT) && !textBelow(heading).contains(words)) {
            Due.tell(where + "the document does not say so");
        }
    }

    /** The call after that start answers as due; if that is an exception, nothing has changed. */
    void due(String start, String call, String want) {
        String got = String.join(" ", Run.after(start).make(call));
        if (!got.equals(want)) {
            Due.tell(where + start + " " + call + " answered " + got + ", due is " + want);
        }
        if (want.startsWith("throws.")) {
            dueUnchanged(start, call);
        }
    }

    void due(String start, String call, int want) {
        due(start, call, String.valueOf(want));
    }

    /** The states of sections 0 .. 11 after that start, as twelve digits. */
    void dueStates(String start, String want) {
        String got = String.join("", Run.after(start).make(STATES));
        if (!got.equals(want)) {
            Due.tell(where + "the states after " + start + " are " + got + ", due is " + want);
        }
    }

    /** The call throws that for each value in the place of # in it. */
    void dueOfEach(String start, String call, String want, String... values) {
        for (String value : values) {
            due(start, call.replace("#", value), want);
        }
    }

    /** The call is refused for all numbers, in the place of # in it, that no train has. */
    void dueNoSuchTrain(String call) {
        dueOfEach(EMPTY, call, NO_SUCH, "least", "-1", "0", "1", "7", "8", "greatest");
        dueOfEach(MIXED, call, NO_SUCH, "least", "-1", "1", "3", "4", "7", "8", "greatest");
        dueOfEach(FULL, call, NO_SUCH, "least", "-1", "8", "9", "greatest");
    }

    /** What an object does after a refused call it does without that call too, whatever comes. */
    private void dueUnchanged(String start, String call) {
        for (String later : LATER) {
            Run refused = Run.after(start);
            refused.make(call);
            if (!refused.make(later).equals(Run.after(start).make(later))) {
                Due.tell(where + start + " " + call + " is refused and has changed something, seen by " + later);
            }
        }
    }

    /** Speed, silence, reports and claims can't be asked for: they are seen by what later calls answer. */
    private static String[] allThatMayComeLater() {
        return new String[] {
            QUESTIONS + "tick(1) " + QUESTIONS + "tick(6) " + QUESTIONS,
            ofEach("drive(#, 9) silence(#, false) confirm(#)", 8) + QUESTIONS + "tick(1) " + QUESTIONS,
            ofEach("authorise(#)", 8) + QUESTIONS + ofEach("drive(#, 4)", 8) + "tick(4) " + QUESTIONS,
            ofEach("enter(#5, 1)", 12) + QUESTIONS + ofEach("relent(#)", 8) + QUESTIONS,
            ofEach("lose(#, 1) confirm(#)", 8) + QUESTIONS + ofEach("clear(#)", 8) + QUESTIONS,
        };
    }

    private static String ofEach(String calls, int numbers) {
        StringBuilder all = new StringBuilder();
        for (int number = 0; number < numbers; number++) {
            all.append(calls.replace("#", String.valueOf(number))).append(' ');
        }
        return all.toString();
    }

    private static String textBelow(String heading) {
        try {
            for (String part : Files.readString(DOCUMENT).split("\n## ")) {
                if (part.startsWith(heading + ":") || part.startsWith(heading + "\n")) {
                    return part.replaceAll("\\s+", " ");
                }
            }
        } catch (IOException e) {
            Due.tell("the document can't be read: " + e);
        }
        return "";
    }
}
