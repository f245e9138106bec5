import java.util.ArrayList;
import java.util.BitSet;
import java.util.List;
import java.util.NoSuchElementException;
import java.util.Random;

/** Long runs of calls, each answer against Model: a second reading of the document, by sets of places and sections. */
public final class RandomRunsTest {
    private static final int RUNS = 3000;
    private static final int CALLS = 512;
    // How often each call is made: few trains and wagons, that they do not all come at once, and many ticks.
    private static final int[] KINDS = {0, 0, 1, 1, 1, 2, 2, 2, 3, 3, 3, 3, 4, 5, 5, 6, 6, 6, 7, 8, 8, 8, 8, 8, 8, 9, 9, 10,
        11, 11, 12};
    // A train that loses wagons unseen and says that it is whole: by chance alone that hardly ever comes about.
    private static final int[][] LOSS_UNSEEN = {{5, 1}, {8, 1}, {3, 0}, {1, 9}, {2, 1}, {8, 1}, {5, 1}, {6, 0}, {2, 0}, {8, 1},
        {12, 6}};

    private final Random random;
    private final HybridTrack track = new HybridTrack();
    private final Model model = new Model();
    private final int wildness;
    private int planned = LOSS_UNSEEN.length;
    private int plannedTrain = 0;

    private RandomRunsTest(int seed) {
        random = new Random(seed);
        wildness = seed % 3 == 0 ? 10 : 60;
    }

    public static void main(String[] args) {
        int[] seen = new int[8];
        for (int seed = 0; seed < RUNS; seed++) {
            new RandomRunsTest(seed).run(seed, seen);
        }
        for (int what = 0; what < 8; what++) {
            if (seen[what] < 100) {
                Due.tell("hardly a run makes count(" + what + ") other than 0: " + seen[what]);
            }
        }
        Due.end();
    }

    private void run(int seed, int[] seen) {
        // Most runs are short, as all vehicles come to rest in long ones.
        int calls = seed % 10 == 0 ? CALLS : CALLS / 4;
        for (int call = 0; call < calls; call++) {
            boolean byPlan = nextIsPlanned();
            int kind = byPlan ? LOSS_UNSEEN[planned][0] : KINDS[random.nextInt(KINDS.length)];
            int a = byPlan ? plannedArgument(kind) : firstArgument(kind);
            int b = byPlan ? LOSS_UNSEEN[planned++][1] : secondArgument(kind);
            String want = answerOf(() -> ask(model, kind, a, b));
            String got = answerOf(() -> ask(track, kind, a, b));
            if (!got.equals(want)) {
                Due.tell("run " + seed + ", call " + call + ", kind " + kind + "(" + a + ", " + b + "): "
                    + got + ", due is " + want);
                return;
            }
            for (int what = 0; what < 8; what++) {
                seen[what] += model.count(what) > 0 ? 1 : 0;
            }
        }
    }

    private boolean nextIsPlanned() {
        if (planned >= LOSS_UNSEEN.length && random.nextInt(60) == 0) {
            planned = 0;
            plannedTrain = random.nextInt(Math.max(1, model.count(0)));
        }
        return planned < LOSS_UNSEEN.length && random.nextInt(20) != 0;
    }

    private int plannedArgument(int kind) {
        return kind == 8 || kind == 12 ? LOSS_UNSEEN[planned][1] : plannedTrain;
    }

    private int firstArgument(int kind) {
        if (random.nextInt(wildness) == 0) {
            return wild();
        }
        switch (kind) {
            case 0: return random.nextInt(120);
            case 8: return random.nextInt(4) == 0 ? 1 + random.nextInt(6) : 1;
            case 9: return random.nextInt(12);
            case 10: return random.nextInt(4);
            case 12: return random.nextInt(8);
            default: return random.nextInt(Math.max(1, model.count(0)));
        }
    }

    private int secondArgument(int kind) {
        if (random.nextInt(wildness) == 0) {
            return wild();
        }
        switch (kind) {
            case 0: return 1 + random.nextInt(random.nextBoolean() ? 12 : 40);
            case 1: return random.nextInt(10);
            case 2: return random.nextInt(2);
            case 5: return 1 + random.nextInt(4);
            case 11: return random.nextInt(6);
            default: return 0;
        }
    }

    private int wild() {
        int[] all = {-1, 0, 1, 7, 8, 9, 10, 12, 40, 41, 119, 120, Integer.MIN_VALUE, Integer.MAX_VALUE};
        return all[random.nextInt(all.length)];
    }

    private interface Call {
        int make();
    }

    private static String answerOf(Call call) {
        try {
            return String.valueOf(call.make());
        } catch (RuntimeException e) {
            return "throws " + e.getClass().getSimpleName();
        }
    }

    private static int ask(HybridTrack x, int kind, int a, int b) {
        switch (kind) {
            case 0: return x.enter(a, b);
            case 1: return x.drive(a, b);
            case 2: return x.silence(a, b == 1);
            case 3: return x.authorise(a);
            case 4: return x.relent(a);
            case 5: return x.lose(a, b);
            case 6: return x.confirm(a);
            case 7: return x.clear(a);
            case 9: return x.state(a);
            case 10: return x.detected(a);
            case 11: return x.vehicle(a, b);
            case 12: return x.count(a);
            default: return x.tick(a);
        }
    }

    private static int ask(Model x, int kind, int a, int b) {
        switch (kind) {
            case 0: return x.enter(a, b);
            case 1: return x.drive(a, b);
            case 2: return x.silence(a, b == 1);
            case 3: return x.authorise(a);
            case 4: return x.relent(a);
            case 5: return x.lose(a, b);
            case 6: return x.confirm(a);
            case 7: return x.clear(a);
            case 9: return x.state(a);
            case 10: return x.detected(a);
            case 11: return x.vehicle(a, b);
            case 12: return x.count(a);
            default: return x.tick(a);
        }
    }

    private static final class Report {
        final int front;
        final int length;
        final boolean whole;
        final int tick;

        Report(int front, int length, boolean whole, int tick) {
            this.front = front;
            this.length = length;
            this.whole = whole;
            this.tick = tick;
        }

        int lastPlace() {
            return front - length + 1;
        }
    }

    private static class Thing {
        final BitSet places = new BitSet();
        boolean gone = false;

        int front() {
            return places.length() - 1;
        }
    }

    private static final class Train extends Thing {
        final List<Report> reports = new ArrayList<>();
        int speed = 0;
        int end;
        boolean silent = false;
        boolean whole = true;

        void report(int tick) {
            reports.add(new Report(front(), places.cardinality(), whole, tick));
        }

        Report last() {
            return reports.get(reports.size() - 1);
        }
    }

    private static final class Model {
        private final List<Thing> things = new ArrayList<>();
        private int[] states = new int[12];
        private List<BitSet> locatedBefore = new ArrayList<>();
        private int ticks = 0;

        private static BitSet range(int from, int to) {
            BitSet all = new BitSet();
            for (int i = from; i <= to; i++) {
                all.set(i);
            }
            return all;
        }

        private static BitSet sections(int fromPlace, int toPlace) {
            return range(fromPlace / 10, toPlace / 10);
        }

        private int age(Train t) {
            return ticks - t.last().tick;
        }

        private boolean mute(Train t) {
            return age(t) > 5;
        }

        private BitSet claims(Train t) {
            return sections(t.last().lastPlace(), t.end);
        }

        private BitSet located(Train t) {
            return mute(t) ? new BitSet() : sections(t.last().lastPlace(), t.last().front);
        }

        private BitSet left(Train t) {
            int n = t.reports.size();
            if (n < 2) {
                return new BitSet();
            }
            return range(t.reports.get(n - 2).lastPlace() / 10, t.reports.get(n - 1).lastPlace() / 10 - 1);
        }

        private BitSet taken() {
            BitSet all = new BitSet();
            for (Thing thing : things) {
                if (!thing.gone) {
                    all.or(thing.places);
                }
            }
            return all;
        }

        private List<Train> trains() {
            List<Train> all = new ArrayList<>();
            for (Thing thing : things) {
                if (thing instanceof Train) {
                    all.add((Train) thing);
                }
            }
            return all;
        }

        private Train train(int number) {
            if (number < 0 || number >= things.size() || !(things.get(number) instanceof Train)) {
                throw new NoSuchElementException();
            }
            return (Train) things.get(number);
        }

        private static void argument(boolean right) {
            if (!right) {
                throw new IllegalArgumentException();
            }
        }

        private static void state(boolean right) {
            if (!right) {
                throw new IllegalStateException();
            }
        }

        int enter(int front, int length) {
            argument(length >= 1 && length <= 40 && front >= 0 && front <= 119 && front - length >= -1);
            BitSet places = range(front - length + 1, front);
            BitSet own = sections(front - length + 1, front);
            state(things.size() < 8 && !taken().intersects(places));
            for (Train other : trains()) {
                state(!claims(other).intersects(own));
            }
            Train t = new Train();
            t.places.or(places);
            t.end = front;
            things.add(t);
            t.report(ticks);
            find();
            return things.size() - 1;
        }

        int drive(int number, int speed) {
            Train t = train(number);
            argument(speed >= 0 && speed <= 9);
            int before = t.speed;
            t.speed = speed;
            return before;
        }

        int silence(int number, boolean on) {
            Train t = train(number);
            int answer = t.silent == on ? 0 : 1;
            t.silent = on;
            return answer;
        }

        int authorise(int number) {
            Train t = train(number);
            state(!mute(t) && !t.silent);
            BitSet others = new BitSet();
            for (Train other : trains()) {
                if (other != t) {
                    others.or(claims(other));
                }
            }
            int section = t.end / 10;
            if (others.get(section) || states[section] != 0 && t.last().front / 10 != section) {
                return t.end;
            }
            while (section < 11 && states[section + 1] == 0 && !others.get(section + 1)) {
                section++;
            }
            t.end = section * 10 + 9;
            return t.end;
        }

        int relent(int number) {
            Train t = train(number);
            state(!t.silent);
            int fewer = t.end - t.front();
            t.end = t.front();
            return fewer;
        }

        int lose(int number, int n) {
            Train t = train(number);
            argument(n >= 1 && n <= t.places.cardinality() - 1);
            state(things.size() < 8);
            Thing wagon = new Thing();
            int last = t.places.nextSetBit(0);
            wagon.places.set(last, last + n);
            t.places.andNot(wagon.places);
            t.whole = false;
            things.add(wagon);
            return things.size() - 1;
        }

        int confirm(int number) {
            Train t = train(number);
            state(!t.whole && !t.last().whole);
            t.whole = true;
            return t.places.cardinality();
        }

        int clear(int number) {
            if (number < 0 || number >= things.size() || things.get(number) instanceof Train
                || things.get(number).gone) {
                throw new NoSuchElementException();
            }
            things.get(number).gone = true;
            return things.get(number).places.cardinality();
        }

        int tick(int n) {
            argument(n >= 1 && n <= 6);
            for (int i = 0; i < n; i++) {
                for (Train t : trains()) {
                    go(t);
                }
                ticks++;
                for (Train t : trains()) {
                    if (!t.silent) {
                        t.report(ticks);
                    }
                }
                find();
            }
            return in(0);
        }

        private void go(Train t) {
            int free = taken().nextSetBit(t.front() + 1);
            int most = Math.min(t.front() + t.speed, t.end);
            int to = free < 0 ? most : Math.min(most, free - 1);
            int length = t.places.cardinality();
            t.places.clear();
            t.places.set(to - length + 1, to + 1);
        }

        private void find() {
            int[] found = new int[12];
            for (int v = 0; v < 12; v++) {
                found[v] = found(v);
            }
            for (int v = 0; v < 12; v++) {
                for (Train t : trains()) {
                    if (found[v] == 0 && mute(t) && claims(t).get(v) && detected(v / 3) == 1) {
                        found[v] = 3;
                    }
                }
            }
            states = found;
            locatedBefore = new ArrayList<>();
            for (Train t : trains()) {
                locatedBefore.add(located(t));
            }
        }

        private int found(int v) {
            if (detected(v / 3) == 0) {
                return 0;
            }
            List<Train> there = new ArrayList<>();
            for (Train t : trains()) {
                if (located(t).get(v)) {
                    there.add(t);
                }
            }
            if (!there.isEmpty()) {
                return there.size() == 1 && there.get(0).last().whole && states[v] < 2 ? 1 : 2;
            }
            return states[v] == 0 ? foundFromFree(v) : states[v] == 1 ? foundFromOccupied(v) : 3;
        }

        private int foundFromFree(int v) {
            BitSet around = range(v / 3 * 3, v / 3 * 3 + 2);
            boolean explained = false;
            for (Train t : trains()) {
                explained |= located(t).intersects(around) || mute(t) && claims(t).intersects(around);
            }
            for (Train t : trains()) {
                explained &= !(age(t) == 0 && !t.last().whole && left(t).get(v));
            }
            return explained ? 0 : 3;
        }

        private int foundFromOccupied(int v) {
            List<Train> were = new ArrayList<>();
            for (int i = 0; i < locatedBefore.size(); i++) {
                if (locatedBefore.get(i).get(v)) {
                    were.add(trains().get(i));
                }
            }
            return were.size() == 1 && age(were.get(0)) == 0 && were.get(0).last().whole ? 0 : 3;
        }

        int state(int section) {
            argument(section >= 0 && section <= 11);
            return states[section];
        }

        int detected(int section) {
            argument(section >= 0 && section <= 3);
            return taken().intersects(range(section * 30, section * 30 + 29)) ? 1 : 0;
        }

        int vehicle(int number, int what) {
            if (number < 0 || number >= things.size() || things.get(number).gone) {
                throw new NoSuchElementException();
            }
            argument(what >= 0 && what <= 5);
            Thing thing = things.get(number);
            if (what < 2) {
                return what == 0 ? thing.front() : thing.places.cardinality();
            }
            Train t = train(number);
            return what == 2 ? t.end : what == 3 ? age(t) : what == 4 ? t.last().front : t.whole ? 1 : 0;
        }

        int count(int what) {
            argument(what >= 0 && what <= 7);
            switch (what) {
                case 0: return things.size();
                case 1: return trains().size();
                case 6: return wronglyFree();
                case 7: return ticks;
                default: return in(what - 2);
            }
        }

        private int in(int state) {
            int n = 0;
            for (int v = 0; v < 12; v++) {
                n += states[v] == state ? 1 : 0;
            }
            return n;
        }

        private int wronglyFree() {
            int n = 0;
            for (int v = 0; v < 12; v++) {
                boolean claimed = false;
                for (Train t : trains()) {
                    claimed |= claims(t).get(v);
                }
                n += states[v] == 0 && !claimed && taken().intersects(range(10 * v, 10 * v + 9)) ? 1 : 0;
            }
            return n;
        }
    }
}
