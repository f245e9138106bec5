import java.util.NoSuchElementException;

/** Train control by virtual sections inside detected ones; ../shared/DOC.md tells its promises. */
public final class HybridTrack {
    private static final int PLACES = 120;
    private static final int SECTIONS = 12;
    private static final int PLACES_OF_SECTION = 10;
    private static final int DETECTED_SECTIONS = 4;
    private static final int SECTIONS_OF_DETECTED = 3;
    private static final int PLACES_OF_DETECTED = 30;
    private static final int MOST_VEHICLES = 8;
    private static final int GREATEST_LENGTH = 40;
    private static final int GREATEST_SPEED = 9;
    private static final int GREATEST_AGE_LOCATED = 5;
    private static final int MOST_TICKS_OF_CALL = 6;

    private static final int FREE = 0;
    private static final int OCCUPIED = 1;
    private static final int AMBIGUOUS = 2;
    private static final int UNKNOWN = 3;

    private static final int NOBODY = -1;

    private final Vehicle[] vehicles = new Vehicle[MOST_VEHICLES];
    private int came = 0;
    private int ticksMade = 0;
    private final int[] states = new int[SECTIONS];
    private final int[] locatedTrains = new int[SECTIONS];
    // The number of the train that alone is LOCATED on a section, now and when states were found before.
    private final int[] loneTrain = new int[SECTIONS];
    private final int[] loneTrainBefore = new int[SECTIONS];

    public HybridTrack() {
        // All vehicles are made here, so that no later call makes an object or meets a null.
        for (int i = 0; i < MOST_VEHICLES; i++) {
            vehicles[i] = new Vehicle();
        }
        for (int s = 0; s < SECTIONS; s++) {
            loneTrain[s] = NOBODY;
            loneTrainBefore[s] = NOBODY;
        }
    }

    public int enter(int front, int length) throws IllegalArgumentException, IllegalStateException {
        // The length is tested first, so that the last place can't wrap around.
        if (length < 1 || length > GREATEST_LENGTH) {
            throw new IllegalArgumentException("length not 1 .. 40");
        }
        if (front < 0 || front >= PLACES || front - length + 1 < 0) {
            throw new IllegalArgumentException("not on the track");
        }
        if (came >= MOST_VEHICLES) {
            throw new IllegalStateException("8 vehicles came");
        }
        int last = front - length + 1;
        if (isStoodOn(last, front)) {
            throw new IllegalStateException("a vehicle stands there");
        }
        if (isAnyClaimed(sectionOf(last), sectionOf(front), NOBODY)) {
            throw new IllegalStateException("a train claims a section there");
        }
        vehicles[came].becomeTrain(front, length);
        came++;
        findStates();
        return came - 1;
    }

    public int drive(int train, int speed) throws NoSuchElementException, IllegalArgumentException {
        Vehicle driven = existingTrain(train);
        if (speed < 0 || speed > GREATEST_SPEED) {
            throw new IllegalArgumentException("speed not 0 .. 9");
        }
        int before = driven.speed;
        driven.speed = speed;
        return before;
    }

    public int silence(int train, boolean on) throws NoSuchElementException {
        Vehicle told = existingTrain(train);
        boolean changes = told.silent != on;
        told.silent = on;
        return changes ? 1 : 0;
    }

    public int authorise(int train) throws NoSuchElementException, IllegalStateException {
        Vehicle mover = existingTrain(train);
        if (mover.isMute() || mover.silent) {
            throw new IllegalStateException("the train is mute or silent");
        }
        int section = sectionOf(mover.end);
        boolean mayFill = states[section] == FREE || sectionOf(mover.reportedFront) == section;
        if (mayFill && !isAnyClaimed(section, section, train)) {
            int farthest = farthestFreeFrom(section, train);
            mover.end = farthest * PLACES_OF_SECTION + PLACES_OF_SECTION - 1;
        }
        return mover.end;
    }

    public int relent(int train) throws NoSuchElementException, IllegalStateException {
        Vehicle mover = existingTrain(train);
        if (mover.silent) {
            throw new IllegalStateException("the train is silent");
        }
        int fewer = mover.end - mover.front;
        mover.end = mover.front;
        return fewer;
    }

    public int lose(int train, int n) throws NoSuchElementException, IllegalArgumentException, IllegalStateException {
        Vehicle loser = existingTrain(train);
        if (n < 1 || n >= loser.length) {
            throw new IllegalArgumentException("n not 1 .. length less 1");
        }
        if (came >= MOST_VEHICLES) {
            throw new IllegalStateException("8 vehicles came");
        }
        vehicles[came].becomeWagon(loser.lastPlace() + n - 1, n);
        came++;
        loser.length -= n;
        loser.whole = false;
        return came - 1;
    }

    public int confirm(int train) throws NoSuchElementException, IllegalStateException {
        Vehicle teller = existingTrain(train);
        if (teller.whole || teller.reportedWhole) {
            throw new IllegalStateException("the train is whole, or was by its report");
        }
        teller.whole = true;
        return teller.length;
    }

    public int clear(int wagon) throws NoSuchElementException {
        if (!isOnTrack(wagon) || vehicles[wagon].isTrain) {
            throw new NoSuchElementException("no such wagon");
        }
        vehicles[wagon].onTrack = false;
        return vehicles[wagon].length;
    }

    public int tick(int n) throws IllegalArgumentException {
        if (n < 1 || n > MOST_TICKS_OF_CALL) {
            throw new IllegalArgumentException("ticks not 1 .. 6");
        }
        for (int i = 0; i < n; i++) {
            makeTick();
        }
        return sectionsInState(FREE);
    }

    public int state(int section) throws IllegalArgumentException {
        if (section < 0 || section >= SECTIONS) {
            throw new IllegalArgumentException("section not 0 .. 11");
        }
        return states[section];
    }

    public int detected(int section) throws IllegalArgumentException {
        if (section < 0 || section >= DETECTED_SECTIONS) {
            throw new IllegalArgumentException("section not 0 .. 3");
        }
        return isDetectedOccupied(section) ? 1 : 0;
    }

    public int vehicle(int vehicle, int what) throws NoSuchElementException, IllegalArgumentException {
        if (!isOnTrack(vehicle)) {
            throw new NoSuchElementException("no such vehicle");
        }
        if (what < 0 || what > 5) {
            throw new IllegalArgumentException("what not 0 .. 5");
        }
        Vehicle asked = vehicles[vehicle];
        if (what >= 2 && !asked.isTrain) {
            throw new NoSuchElementException("no train");
        }
        switch (what) {
            case 0: return asked.front;
            case 1: return asked.length;
            case 2: return asked.end;
            case 3: return asked.age;
            case 4: return asked.reportedFront;
            default: return asked.whole ? 1 : 0;
        }
    }

    public int count(int what) throws IllegalArgumentException {
        switch (what) {
            case 0: return came;
            case 1: return trainsThatCame();
            case 2: return sectionsInState(FREE);
            case 3: return sectionsInState(OCCUPIED);
            case 4: return sectionsInState(AMBIGUOUS);
            case 5: return sectionsInState(UNKNOWN);
            case 6: return sectionsWronglyFree();
            case 7: return ticksMade;
            default: throw new IllegalArgumentException("what not 0 .. 7");
        }
    }

    private static int sectionOf(int place) {
        return place / PLACES_OF_SECTION;
    }

    private boolean isOnTrack(int number) {
        return number >= 0 && number < came && vehicles[number].onTrack;
    }

    private Vehicle existingTrain(int number) throws NoSuchElementException {
        if (!isOnTrack(number) || !vehicles[number].isTrain) {
            throw new NoSuchElementException("no such train");
        }
        return vehicles[number];
    }

    private boolean isStoodOn(int lowPlace, int highPlace) {
        for (int i = 0; i < came; i++) {
            if (vehicles[i].standsWithin(lowPlace, highPlace)) {
                return true;
            }
        }
        return false;
    }

    private boolean isDetectedOccupied(int detectedSection) {
        int lowPlace = detectedSection * PLACES_OF_DETECTED;
        return isStoodOn(lowPlace, lowPlace + PLACES_OF_DETECTED - 1);
    }

    private boolean isSectionStoodOn(int section) {
        int lowPlace = section * PLACES_OF_SECTION;
        return isStoodOn(lowPlace, lowPlace + PLACES_OF_SECTION - 1);
    }

    private boolean isAnyClaimed(int firstSection, int lastSection, int exceptTrain) {
        for (int i = 0; i < came; i++) {
            if (i != exceptTrain && vehicles[i].claimsWithin(firstSection, lastSection)) {
                return true;
            }
        }
        return false;
    }

    private boolean isAnyClaimedByMute(int firstSection, int lastSection) {
        for (int i = 0; i < came; i++) {
            if (vehicles[i].isMute() && vehicles[i].claimsWithin(firstSection, lastSection)) {
                return true;
            }
        }
        return false;
    }

    private int farthestFreeFrom(int section, int train) {
        int farthest = section;
        for (int s = section + 1; s < SECTIONS; s++) {
            if (states[s] != FREE || isAnyClaimed(s, s, train)) {
                break;
            }
            farthest = s;
        }
        return farthest;
    }

    private int trainsThatCame() {
        int trains = 0;
        for (int i = 0; i < came; i++) {
            if (vehicles[i].isTrain) {
                trains++;
            }
        }
        return trains;
    }

    private int sectionsInState(int wanted) {
        int sections = 0;
        for (int s = 0; s < SECTIONS; s++) {
            if (states[s] == wanted) {
                sections++;
            }
        }
        return sections;
    }

    private int sectionsWronglyFree() {
        int sections = 0;
        for (int s = 0; s < SECTIONS; s++) {
            if (states[s] == FREE && !isAnyClaimed(s, s, NOBODY) && isSectionStoodOn(s)) {
                sections++;
            }
        }
        return sections;
    }

    private void makeTick() {
        for (int i = 0; i < came; i++) {
            if (vehicles[i].isTrain) {
                goForward(vehicles[i]);
            }
        }
        for (int i = 0; i < came; i++) {
            if (vehicles[i].isTrain) {
                vehicles[i].reportOrAge();
            }
        }
        findStates();
        ticksMade++;
    }

    private void goForward(Vehicle train) {
        for (int step = 0; step < train.speed; step++) {
            int next = train.front + 1;
            if (next > train.end || isStoodOn(next, next)) {
                return;
            }
            train.front = next;
        }
    }

    private void findStates() {
        locateTrains();
        // What a section becomes depends on no other section's state, so one row is enough to find all at once.
        for (int s = 0; s < SECTIONS; s++) {
            states[s] = stateByReports(s);
        }
        for (int s = 0; s < SECTIONS; s++) {
            if (states[s] == FREE && isAnyClaimedByMute(s, s) && isDetectedOccupied(s / SECTIONS_OF_DETECTED)) {
                states[s] = UNKNOWN;
            }
        }
    }

    private void locateTrains() {
        for (int s = 0; s < SECTIONS; s++) {
            loneTrainBefore[s] = loneTrain[s];
            loneTrain[s] = NOBODY;
            locatedTrains[s] = 0;
            for (int i = 0; i < came; i++) {
                if (vehicles[i].isLocatedOn(s)) {
                    locatedTrains[s]++;
                    loneTrain[s] = locatedTrains[s] == 1 ? i : NOBODY;
                }
            }
        }
    }

    private int stateByReports(int section) {
        if (!isDetectedOccupied(section / SECTIONS_OF_DETECTED)) {
            return FREE;
        }
        if (locatedTrains[section] > 0) {
            return stateUnderTrains(section);
        }
        if (states[section] == FREE) {
            return staysFree(section) ? FREE : UNKNOWN;
        }
        if (states[section] == OCCUPIED) {
            return wasLeftByWholeTrain(section) ? FREE : UNKNOWN;
        }
        return UNKNOWN;
    }

    private int stateUnderTrains(int section) {
        int alone = loneTrain[section];
        boolean stateWasSure = states[section] == FREE || states[section] == OCCUPIED;
        boolean sure = alone != NOBODY && vehicles[alone].reportedWhole && stateWasSure;
        return sure ? OCCUPIED : AMBIGUOUS;
    }

    private boolean staysFree(int section) {
        int firstSection = section - section % SECTIONS_OF_DETECTED;
        int lastSection = firstSection + SECTIONS_OF_DETECTED - 1;
        boolean explained = isAnyTrainLocated(firstSection, lastSection)
                || isAnyClaimedByMute(firstSection, lastSection);
        return explained && !wasLeftByBrokenTrain(section);
    }

    private boolean isAnyTrainLocated(int firstSection, int lastSection) {
        for (int s = firstSection; s <= lastSection; s++) {
            if (locatedTrains[s] > 0) {
                return true;
            }
        }
        return false;
    }

    private boolean wasLeftByBrokenTrain(int section) {
        for (int i = 0; i < came; i++) {
            Vehicle train = vehicles[i];
            if (train.isTrain && train.age == 0 && !train.reportedWhole && train.hasLeft(section)) {
                return true;
            }
        }
        return false;
    }

    private boolean wasLeftByWholeTrain(int section) {
        int alone = loneTrainBefore[section];
        return alone != NOBODY && vehicles[alone].age == 0 && vehicles[alone].reportedWhole;
    }

    private static final class Vehicle {
        private boolean isTrain = false;
        private boolean onTrack = false;
        private int front = 0;
        private int length = 0;
        private int speed = 0;
        private int end = 0;
        private boolean silent = false;
        private boolean whole = false;
        private int age = 0;
        private int reportedFront = 0;
        private boolean reportedWhole = false;
        // The virtual section of the last place, by the report and by the one before it.
        private int tailSection = 0;
        private int tailSectionBefore = 0;

        private void becomeTrain(int atFront, int ofLength) {
            isTrain = true;
            onTrack = true;
            front = atFront;
            length = ofLength;
            end = atFront;
            whole = true;
            sendReport();
            // With its first report a train has LEFT nothing.
            tailSectionBefore = tailSection;
        }

        private void becomeWagon(int atFront, int ofLength) {
            onTrack = true;
            front = atFront;
            length = ofLength;
        }

        private void sendReport() {
            reportedFront = front;
            reportedWhole = whole;
            tailSectionBefore = tailSection;
            tailSection = lastPlace() / PLACES_OF_SECTION;
            age = 0;
        }

        private void reportOrAge() {
            if (silent) {
                age++;
            } else {
                sendReport();
            }
        }

        private int lastPlace() {
            return front - length + 1;
        }

        private boolean standsWithin(int lowPlace, int highPlace) {
            return onTrack && front >= lowPlace && lastPlace() <= highPlace;
        }

        private boolean isMute() {
            return isTrain && age > GREATEST_AGE_LOCATED;
        }

        private boolean isLocatedOn(int section) {
            return isTrain && !isMute() && tailSection <= section && section <= reportedFront / PLACES_OF_SECTION;
        }

        private boolean claimsWithin(int firstSection, int lastSection) {
            return isTrain && tailSection <= lastSection && end / PLACES_OF_SECTION >= firstSection;
        }

        private boolean hasLeft(int section) {
            return tailSectionBefore <= section && section < tailSection;
        }
    }
}
