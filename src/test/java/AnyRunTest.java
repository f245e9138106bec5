import java.util.List;
import java.util.Random;

/**
 * What must hold after any run of calls, seen by what the class itself answers: unlike RandomRunsTest it knows no rule by
 * which an answer is found, so that a rule which was misread in both places can still be caught here.
 */
public final class AnyRunTest {
    private static final int RUNS = 6000;
    // With the questions before and after the last call that is less than an object may be asked.
    private static final int MOST_CALLS = 300;
    private static final String[] CALLS = {"enter(#place, #length)", "enter(#place, #length)", "drive(#train, #speed)",
        "drive(#train, 9)", "silence(#train, true)", "silence(#train, false)", "authorise(#train)", "authorise(#train)",
        "relent(#train)", "lose(#train, #short)", "confirm(#train)", "clear(#train)", "tick(1)", "tick(1)", "tick(#ticks)"};

    private final Random random;
    private final Run run = new Run();
    private final StringBuilder past = new StringBuilder();

    private AnyRunTest(int seed) {
        random = new Random(seed);
    }

    public static void main(String[] args) {
        int extended = 0;
        int ticked = 0;
        for (int seed = 0; seed < RUNS; seed++) {
            AnyRunTest any = new AnyRunTest(seed);
            for (int calls = any.random.nextInt(MOST_CALLS); calls > 0; calls--) {
                any.make(any.nextCall());
            }
            String last = any.nextCall();
            Seen before = new Seen(any.run);
            String answer = any.make(last);
            Seen after = new Seen(any.run);
            any.dueOnTheTrack(after);
            any.dueSectionsCounted(after);
            any.dueUnchangedIfThrown(answer, before, after);
            extended += any.dueIntoFreeOnesAlone(last, before, after);
            ticked += any.dueAfterTick(last, answer, before, after);
        }
        if (extended < 20 || ticked < 20) {
            Due.tell("hardly a run ends as it should to be of use: " + extended + " extend an END, " + ticked + " tick");
        }
        Due.end();
    }

    private String make(String call) {
        past.append(call).append(' ');
        return run.make(call).get(0);
    }

    private String nextCall() {
        return CALLS[random.nextInt(CALLS.length)]
            .replace("#place", String.valueOf(random.nextInt(120)))
            .replace("#length", String.valueOf(1 + random.nextInt(random.nextBoolean() ? 8 : 40)))
            .replace("#train", String.valueOf(random.nextInt(random.nextBoolean() ? 2 : 8)))
            .replace("#speed", String.valueOf(random.nextInt(10)))
            .replace("#short", String.valueOf(1 + random.nextInt(6)))
            .replace("#ticks", String.valueOf(1 + random.nextInt(6)));
    }

    private void due(boolean holds, String words) {
        if (!holds) {
            Due.tell("it does not hold that " + words + ": " + past);
        }
    }

    /** No two vehicles on a place, none beside the track, none beyond its END; a detected section tells whether one is in it. */
    private void dueOnTheTrack(Seen seen) {
        int[] standing = new int[120];
        for (int number = 0; number < 8; number++) {
            int front = seen.of(number, 0);
            int last = front - seen.of(number, 1) + 1;
            if (front == Seen.NONE) {
                continue;
            }
            due(last >= 0 && last <= front && front <= 119, "vehicle " + number + " stands on the track");
            for (int place = Math.max(0, last); place <= Math.min(119, front); place++) {
                standing[place]++;
            }
            int end = seen.of(number, 2);
            due(end == Seen.NONE || front <= end && end <= 119, "train " + number + " has an END that it has not gone beyond");
            due(end == Seen.NONE || seen.of(number, 4) <= front, "train " + number + " does not go backward");
        }
        int[] inDetected = new int[4];
        for (int place = 0; place < 120; place++) {
            due(standing[place] < 2, "no two vehicles stand on place " + place);
            inDetected[place / 30] += standing[place];
        }
        for (int d = 0; d < 4; d++) {
            due(seen.detected[d] == (inDetected[d] > 0 ? 1 : 0), "detected(" + d + ") tells whether a vehicle stands there");
        }
    }

    private void dueSectionsCounted(Seen seen) {
        int[] counted = new int[4];
        for (int state : seen.states) {
            counted[state]++;
        }
        for (int state = 0; state < 4; state++) {
            due(seen.counts[2 + state] == counted[state], "count(" + (2 + state) + ") counts the sections of that state");
        }
        due(seen.counts[6] <= seen.counts[2], "count(6) counts FREE sections");
        int came = 0;
        int trains = 0;
        for (int number = 0; number < 8; number++) {
            came = seen.of(number, 0) != Seen.NONE ? number + 1 : came;
            trains += seen.of(number, 2) != Seen.NONE ? 1 : 0;
        }
        // A wagon that came last may have been taken off.
        due(seen.counts[0] >= came && seen.counts[0] <= 8, "count(0) counts all vehicles that came");
        due(seen.counts[1] == trains, "count(1) counts the trains");
    }

    private void dueUnchangedIfThrown(String answer, Seen before, Seen after) {
        due(!answer.startsWith("throws.") || before.all.equals(after.all), "a call that throws changes nothing");
    }

    /** "movements are authorised into free ones alone": 1 if the last call extended an END. */
    private int dueIntoFreeOnesAlone(String last, Seen before, Seen after) {
        int extended = 0;
        for (int number = 0; number < 8; number++) {
            int endBefore = before.of(number, 2);
            int end = after.of(number, 2);
            if (endBefore != Seen.NONE && end > endBefore) {
                due(last.startsWith("authorise("), "authorise alone extends an END");
                for (int section = endBefore / 10 + 1; section <= end / 10; section++) {
                    due(before.states[section] == 0, "movements are authorised into free ones alone");
                    due(!isStoodOnByReport(before, number, section), "nobody else is known to be where a train is sent");
                }
                extended = 1;
            }
        }
        return extended;
    }

    private static boolean isStoodOnByReport(Seen seen, int exceptTrain, int section) {
        for (int number = 0; number < 8; number++) {
            int front = seen.of(number, 4);
            if (number != exceptTrain && front != Seen.NONE && front / 10 <= section && section <= seen.of(number, 2) / 10) {
                return true;
            }
        }
        return false;
    }

    /** 1 if the last call was tick. */
    private int dueAfterTick(String last, String answer, Seen before, Seen after) {
        if (!last.startsWith("tick(")) {
            due(before.counts[7] == after.counts[7], "tick alone makes ticks");
            return 0;
        }
        int ticks = last.charAt(5) - '0';
        due(after.counts[7] == before.counts[7] + ticks, "tick makes n ticks");
        due(answer.equals(String.valueOf(after.counts[2])), "tick answers how many virtual sections are FREE");
        for (int section = 0; section < 12; section++) {
            due(after.detected[section / 3] == 1 || after.states[section] == 0, "what is not detected is FREE after a tick");
        }
        for (int number = 0; number < 8; number++) {
            int age = after.of(number, 3);
            due(age == Seen.NONE || age == 0 || age == before.of(number, 3) + ticks, "an AGE is 0 or one more for each tick");
            due(age != 0 || after.of(number, 4) == after.of(number, 0), "a report of AGE 0 is of the front as it is");
            due(before.of(number, 2) == after.of(number, 2), "a tick leaves each END");
            due(before.of(number, 1) == after.of(number, 1), "a tick leaves each length");
            due(after.of(number, 0) <= before.of(number, 0) + 9 * ticks, "no train goes faster than 9");
        }
        return 1;
    }

    /** All that can be asked of an object. */
    private static final class Seen {
        static final int NONE = -1;

        final int[] states = new int[12];
        final int[] detected = new int[4];
        final int[] counts = new int[8];
        final int[][] vehicles = new int[8][6];
        final String all;

        Seen(Run run) {
            StringBuilder answers = new StringBuilder();
            ask(run, "state(#)", states, answers);
            ask(run, "detected(#)", detected, answers);
            ask(run, "count(#)", counts, answers);
            for (int number = 0; number < 8; number++) {
                ask(run, "vehicle(" + number + ", #)", vehicles[number], answers);
            }
            all = answers.toString();
        }

        private static void ask(Run run, String call, int[] into, StringBuilder answers) {
            for (int i = 0; i < into.length; i++) {
                List<String> answer = run.make(call.replace("#", String.valueOf(i)));
                into[i] = answer.get(0).startsWith("throws.") ? NONE : Integer.parseInt(answer.get(0));
                answers.append(answer.get(0)).append(' ');
            }
        }

        int of(int vehicle, int what) {
            return vehicles[vehicle][what];
        }
    }
}
