import java.util.NoSuchElementException;
import java.util.function.IntSupplier;

/** For each promise of the document: what the calls do in ordinary runs. The bounds are tried by the tests of sentences. */
public final class PromisesTest {
    private static final Class<IllegalStateException> STATE = IllegalStateException.class;
    private static final Class<NoSuchElementException> NO_SUCH = NoSuchElementException.class;

    private HybridTrack x = new HybridTrack();
    private final String promise;

    private PromisesTest(String promise) {
        this.promise = promise;
    }

    private void due(String call, int got, int want) {
        Due.answer(promise + ": " + call, got, want);
    }

    private void dueStates(String when, String want) {
        Due.states(promise + ", " + when, x, want);
    }

    private void dueThrown(String call, Class<? extends RuntimeException> want, IntSupplier made) {
        Due.thrown(promise + ": " + call, want, made);
    }

    private void dueVehicle(int number, int front, int length) {
        due("front of " + number, x.vehicle(number, 0), front);
        due("length of " + number, x.vehicle(number, 1), length);
    }

    private void dueTrain(int number, int end, int age, int reported, int whole) {
        due("END of " + number, x.vehicle(number, 2), end);
        due("AGE of " + number, x.vehicle(number, 3), age);
        due("reported front of " + number, x.vehicle(number, 4), reported);
        due("whole of " + number, x.vehicle(number, 5), whole);
    }

    private void dueCounts(int... want) {
        for (int what = 0; what < want.length; what++) {
            due("count(" + what + ")", x.count(what), want[what]);
        }
    }

    public static void main(String[] args) {
        new PromisesTest("1").newObject();
        new PromisesTest("1").objectsAreApart();
        new PromisesTest("2").enterMakesATrain();
        new PromisesTest("2").enterEdges();
        new PromisesTest("2").enterWhereAVehicleStands();
        new PromisesTest("2").enterWhereATrainClaims();
        new PromisesTest("2").enterIsNoTick();
        new PromisesTest("2").enterFindsAllStates();
        new PromisesTest("3").drive();
        new PromisesTest("4").silence();
        new PromisesTest("5").authoriseUpToClaims();
        new PromisesTest("5").authoriseUpToNotFree();
        new PromisesTest("5").authoriseFromWhereItsFrontIs();
        new PromisesTest("5").authoriseStays();
        new PromisesTest("6").relent();
        new PromisesTest("7").lose();
        new PromisesTest("8").confirm();
        new PromisesTest("9").clear();
        new PromisesTest("10").tickGoesForward();
        new PromisesTest("10").tickStopsAtEnd();
        new PromisesTest("10").tickStopsBeforeAnother();
        new PromisesTest("10").tickReports();
        new PromisesTest("10").tickFreesBehindAWholeTrain();
        new PromisesTest("10").tickBehindABrokenTrain();
        new PromisesTest("10").tickWithFreeSectionsLeftByABrokenTrain();
        new PromisesTest("10").tickWithAFreeSectionOfTheReportBefore(true, "000100323000");
        new PromisesTest("10").tickWithAFreeSectionOfTheReportBefore(false, "000103323000");
        new PromisesTest("10").tickFreesWhereNothingIsDetected();
        new PromisesTest("10").tickWithDetectionThatNoTrainExplains();
        new PromisesTest("10").tickAtAgeFiveAndSix();
        new PromisesTest("10").tickWithAMuteTrainThatStands();
        new PromisesTest("10").tickAmbiguousStaysSo();
        new PromisesTest("11").state();
        new PromisesTest("12").detected();
        new PromisesTest("13").vehicle();
        new PromisesTest("14").countEach();
        new PromisesTest("14").countWronglyFree();
        Due.end();
    }

    private void newObject() {
        dueStates("new", "000000000000");
        for (int section = 0; section < 4; section++) {
            due("detected", x.detected(section), 0);
        }
        dueCounts(0, 0, 12, 0, 0, 0, 0, 0);
        dueThrown("vehicle(0, 0)", NO_SUCH, () -> x.vehicle(0, 0));
        due("tick(1)", x.tick(1), 12);
    }

    private void objectsAreApart() {
        new HybridTrack().enter(59, 40);
        dueStates("beside another object", "000000000000");
        dueCounts(0, 0, 12, 0, 0, 0, 0, 0);
    }

    private void enterMakesATrain() {
        due("enter(14, 8)", x.enter(14, 8), 0);
        dueVehicle(0, 14, 8);
        dueTrain(0, 14, 0, 14, 1);
        due("speed", x.drive(0, 0), 0);
        due("silent", x.silence(0, false), 0);
        dueStates("after enter", "110000000000");
        due("enter(30, 10)", x.enter(30, 10), 1);
        dueStates("after the second", "111100000000");
        dueCounts(2, 2, 8, 4, 0, 0, 0, 0);
    }

    private void enterEdges() {
        due("enter(39, 40)", x.enter(39, 40), 0);
        due("enter(119, 40)", x.enter(119, 40), 1);
        due("enter(40, 1)", x.enter(40, 1), 2);
        dueStates("at the edges", "111110001111");
        x = new HybridTrack();
        due("enter(0, 1)", x.enter(0, 1), 0);
        due("enter(119, 1)", x.enter(119, 1), 1);
        dueStates("at the ends", "100000000001");
    }

    /** Train 0 on 20 .. 25, CLAIMS section 2; its wagon 1 on 16 .. 19, in section 1 that no train CLAIMS. */
    private void trainBeforeItsWagon() {
        x.enter(25, 10);
        x.lose(0, 4);
        x.tick(1);
    }

    private void enterWhereAVehicleStands() {
        trainBeforeItsWagon();
        dueThrown("enter on a wagon's front", STATE, () -> x.enter(19, 1));
        dueThrown("enter on a wagon's last place", STATE, () -> x.enter(16, 1));
        dueThrown("enter with the front on a wagon", STATE, () -> x.enter(16, 9));
        due("enter behind a wagon", x.enter(15, 9), 2);
        dueStates("behind a wagon", "122000000000");
        x = new HybridTrack();
        trainBeforeItsWagon();
        x.clear(1);
        due("enter where a wagon was", x.enter(19, 4), 2);
    }

    private void enterWhereATrainClaims() {
        x.enter(25, 2);
        dueThrown("enter behind in the same section", STATE, () -> x.enter(20, 1));
        dueThrown("enter in front in the same section", STATE, () -> x.enter(29, 1));
        dueThrown("enter into a section from the one behind it", STATE, () -> x.enter(20, 5));
        dueThrown("enter into a section from the one in front of it", STATE, () -> x.enter(31, 3));
        x.authorise(0);
        dueThrown("enter below an END", STATE, () -> x.enter(110, 1));
        dueThrown("enter far below an END", STATE, () -> x.enter(70, 1));
        due("enter behind all claims", x.enter(19, 3), 1);
        x.relent(0);
        due("enter after relent", x.enter(30, 1), 2);
    }

    private void enterIsNoTick() {
        x.enter(5, 3);
        x.drive(0, 4);
        x.silence(0, true);
        x.tick(2);
        x.lose(0, 1);
        x.silence(0, false);
        x.enter(115, 3);
        due("AGE of another", x.vehicle(0, 3), 2);
        due("front of another", x.vehicle(0, 0), 5);
        dueThrown("confirm of a train that has not reported its loss", STATE, () -> x.confirm(0));
        due("ticks", x.count(7), 2);
    }

    private void enterFindsAllStates() {
        trainBeforeItsWagon();
        x.authorise(0);
        x.drive(0, 9);
        x.tick(2);
        dueStates("with a wagon left alone", "333220000000");
        x.clear(1);
        dueStates("after clear", "333220000000");
        x.relent(0);
        due("enter(119, 1)", x.enter(119, 1), 2);
        dueStates("found anew", "000220000001");
    }

    private void drive() {
        x.enter(5, 1);
        x.enter(15, 1);
        due("drive(0, 9)", x.drive(0, 9), 0);
        due("drive(0, 0)", x.drive(0, 0), 9);
        due("drive(0, 4)", x.drive(0, 4), 0);
        due("drive(1, 3)", x.drive(1, 3), 0);
        due("drive(0, 4)", x.drive(0, 4), 4);
        due("drive(1, 0)", x.drive(1, 0), 3);
    }

    private void silence() {
        x.enter(5, 1);
        due("not silent at first", x.silence(0, false), 0);
        due("becomes silent", x.silence(0, true), 1);
        due("is silent", x.silence(0, true), 0);
        x.tick(1);
        due("AGE of a silent train", x.vehicle(0, 3), 1);
        due("becomes not silent", x.silence(0, false), 1);
        due("AGE before the next report", x.vehicle(0, 3), 1);
        x.tick(1);
        due("AGE after it", x.vehicle(0, 3), 0);
    }

    private void authoriseUpToClaims() {
        x.enter(5, 2);
        x.enter(45, 4);
        due("up to another's report", x.authorise(0), 39);
        due("up to the end of the track", x.authorise(1), 119);
        due("once more", x.authorise(0), 39);
        dueTrain(0, 39, 0, 5, 1);
        x.relent(0);
        x.relent(1);
        due("the other has given up, but stands", x.authorise(0), 39);
        x.enter(60, 1);
        due("up to one in front", x.authorise(1), 59);
        x.drive(1, 9);
        x.silence(1, true);
        x.tick(1);
        due("up to the report, not to the place", x.authorise(0), 39);
        x.silence(1, false);
        due("not silent, but not yet reported", x.authorise(0), 39);
        x.tick(1);
        due("after the report", x.authorise(0), 49);
    }

    private void authoriseUpToNotFree() {
        x.enter(65, 10);
        x.lose(0, 4);
        x.authorise(0);
        x.drive(0, 9);
        x.tick(1);
        x.enter(5, 1);
        dueStates("with a wagon ahead", "100333220000");
        due("up to an unknown one", x.authorise(2), 29);
    }

    private void authoriseFromWhereItsFrontIs() {
        trainBeforeItsWagon();
        x.enter(12, 2);
        dueStates("in one that is AMBIGUOUS", "022000000000");
        due("the front is in it", x.authorise(2), 19);
        due("and in front are free ones", x.authorise(0), 119);
    }

    /** The END comes into a section that is UNKNOWN, and where the front is, but not by the report. */
    private void authoriseStays() {
        x.enter(25, 1);
        x.authorise(0);
        x.drive(0, 9);
        x.silence(0, true);
        x.tick(1);
        x.silence(0, false);
        due("relent at 34", x.relent(0), 85);
        dueStates("away from its report", "000333000000");
        due("neither FREE nor the front by the report", x.authorise(0), 34);
        x.tick(1);
        dueStates("reported", "000233000000");
        due("the front by the report is in it", x.authorise(0), 39);
    }

    private void relent() {
        x.enter(5, 2);
        due("nothing to give up", x.relent(0), 0);
        x.authorise(0);
        x.drive(0, 9);
        x.tick(1);
        due("relent", x.relent(0), 105);
        dueTrain(0, 14, 0, 14, 1);
        due("again", x.relent(0), 0);
        x.tick(1);
        due("stays at its END", x.vehicle(0, 0), 14);
        x.authorise(0);
        x.silence(0, true);
        x.tick(1);
        x.silence(0, false);
        due("down to its front, not the reported one", x.relent(0), 96);
        dueTrain(0, 23, 1, 14, 1);
        x.silence(0, true);
        x.tick(5);
        x.silence(0, false);
        due("relent of a MUTE train", x.relent(0), 0);
    }

    private void lose() {
        x.enter(25, 20);
        due("lose(0, 8)", x.lose(0, 8), 1);
        dueVehicle(1, 13, 8);
        dueVehicle(0, 25, 12);
        dueTrain(0, 25, 0, 25, 0);
        dueStates("not found anew", "111000000000");
        due("lose(0, 1)", x.lose(0, 1), 2);
        dueVehicle(2, 14, 1);
        due("lose all but one", x.lose(0, 10), 3);
        dueVehicle(3, 24, 10);
        dueVehicle(0, 25, 1);
        dueCounts(4, 1, 9, 3, 0, 0, 0, 0);
        x.drive(0, 9);
        x.authorise(0);
        x.tick(1);
        dueVehicle(3, 24, 10);
        dueVehicle(0, 34, 1);
    }

    private void confirm() {
        x.enter(25, 10);
        x.lose(0, 4);
        x.tick(1);
        due("confirm", x.confirm(0), 6);
        due("whole", x.vehicle(0, 5), 1);
        dueStates("before it is reported", "032000000000");
        x.lose(0, 1);
        due("not whole again", x.vehicle(0, 5), 0);
        due("confirm, as its report is not whole", x.confirm(0), 5);
        x.silence(0, true);
        x.tick(1);
        dueThrown("confirm while silent, whole", STATE, () -> x.confirm(0));
        x.lose(0, 1);
        due("confirm while silent", x.confirm(0), 4);
    }

    private void clear() {
        x.enter(45, 20);
        x.lose(0, 7);
        x.lose(0, 2);
        due("clear(1)", x.clear(1), 7);
        dueThrown("the wagon has gone", NO_SUCH, () -> x.vehicle(1, 0));
        dueVehicle(2, 34, 2);
        due("nothing is detected there", x.detected(0), 0);
        dueStates("not found anew", "001110000000");
        dueCounts(3, 1, 9, 3, 0, 0, 0, 0);
        due("clear(2)", x.clear(2), 2);
        x.tick(1);
        dueStates("found anew", "000220000000");
    }

    private void tickGoesForward() {
        x.enter(5, 3);
        x.enter(65, 3);
        x.authorise(1);
        x.authorise(0);
        x.drive(0, 5);
        x.drive(1, 9);
        due("tick(1)", x.tick(1), 9);
        dueVehicle(0, 10, 3);
        dueVehicle(1, 74, 3);
        due("tick(6)", x.tick(6), 9);
        dueVehicle(0, 40, 3);
        dueVehicle(1, 119, 3);
        due("ticks", x.count(7), 7);
        x.drive(0, 0);
        x.tick(1);
        dueVehicle(0, 40, 3);
    }

    private void tickStopsAtEnd() {
        x.enter(5, 2);
        x.enter(25, 1);
        due("END", x.authorise(0), 19);
        x.drive(0, 9);
        x.drive(1, 9);
        x.tick(1);
        due("below its END", x.vehicle(0, 0), 14);
        due("at its END from the start", x.vehicle(1, 0), 25);
        x.tick(1);
        due("at its END", x.vehicle(0, 0), 19);
        x.tick(1);
        due("not beyond", x.vehicle(0, 0), 19);
        x.authorise(1);
        x.tick(1);
        due("the other goes", x.vehicle(1, 0), 34);
        due("a further END", x.authorise(0), 29);
        x.drive(0, 4);
        x.tick(1);
        due("on again", x.vehicle(0, 0), 23);
    }

    private void tickStopsBeforeAnother() {
        trainBeforeItsWagon();
        x.enter(12, 2);
        x.authorise(2);
        x.drive(2, 3);
        x.tick(1);
        due("just before the wagon", x.vehicle(2, 0), 15);
        x.tick(2);
        due("still before it", x.vehicle(2, 0), 15);
        x.clear(1);
        x.tick(1);
        due("through where it was", x.vehicle(2, 0), 18);
        x = new HybridTrack();
        trainBeforeItsWagon();
        x.enter(12, 2);
        x.authorise(2);
        x.drive(2, 9);
        x.tick(1);
        due("not over the wagon", x.vehicle(2, 0), 15);
    }

    private void tickReports() {
        x.enter(5, 2);
        x.enter(25, 2);
        x.authorise(1);
        x.drive(1, 4);
        x.silence(1, true);
        x.tick(3);
        dueTrain(0, 5, 0, 5, 1);
        dueTrain(1, 119, 3, 25, 1);
        due("front", x.vehicle(1, 0), 37);
        x.silence(1, false);
        dueTrain(1, 119, 3, 25, 1);
        x.tick(1);
        dueTrain(1, 119, 0, 41, 1);
        x.silence(1, true);
        x.tick(6);
        dueTrain(1, 119, 6, 41, 1);
        x.tick(6);
        dueTrain(1, 119, 12, 41, 1);
    }

    private void tickFreesBehindAWholeTrain() {
        x.enter(9, 6);
        x.authorise(0);
        x.drive(0, 5);
        due("at 9", x.count(2), 11);
        due("at 14", x.tick(1), 10);
        dueStates("on two", "110000000000");
        due("at 19", x.tick(1), 11);
        dueStates("on the next", "010000000000");
        x.silence(0, true);
        due("silent at 24", x.tick(1), 11);
        dueStates("by its report", "010000000000");
        x.silence(0, false);
        due("at 29", x.tick(1), 11);
        dueStates("told again", "001000000000");
    }

    private void tickBehindABrokenTrain() {
        x.enter(25, 20);
        x.authorise(0);
        x.drive(0, 6);
        due("on 12 .. 31", x.tick(1), 9);
        x.lose(0, 8);
        due("on 26 .. 37, wagon on 12 .. 19", x.tick(1), 9);
        dueStates("one that it left", "032200000000");
        due("on 32 .. 43", x.tick(1), 7);
        dueStates("no train in the detected one", "333220000000");
        x.confirm(0);
        due("on 38 .. 49", x.tick(1), 7);
        dueStates("whole, but AMBIGUOUS before", "333220000000");
        due("on 44 .. 55", x.tick(1), 6);
        dueStates("whole in one that was FREE", "333321000000");
        due("on 50 .. 61", x.tick(1), 5);
        dueStates("AMBIGUOUS becomes UNKNOWN", "333331100000");
        x.clear(1);
        due("on 56 .. 67", x.tick(1), 8);
        dueStates("the wagon is cleared", "000331100000");
        due("on 62 .. 73", x.tick(1), 10);
        dueStates("nothing is detected", "000000110000");
    }

    /** The train goes silently into section 1 and leaves a wagon there, where no report ever told of it. */
    private void tickWithFreeSectionsLeftByABrokenTrain() {
        x.enter(9, 5);
        x.authorise(0);
        x.drive(0, 9);
        x.silence(0, true);
        x.tick(1);
        x.lose(0, 2);
        x.silence(0, false);
        due("left two", x.tick(1), 9);
        dueStates("FREE, but left", "332000000000");
        x = new HybridTrack();
        x.enter(19, 5);
        x.authorise(0);
        x.drive(0, 9);
        x.lose(0, 2);
        due("left one", x.tick(1), 10);
        dueStates("FREE and not left stays so", "032000000000");
    }

    /** Train 0 leaves section 5 silently, so that it is FREE; train 1 comes behind when train 0 tells of it. */
    private void tickWithAFreeSectionOfTheReportBefore(boolean whole, String want) {
        x.enter(59, 3);
        x.enter(25, 1);
        x.authorise(0);
        x.authorise(1);
        x.drive(0, 9);
        x.silence(0, true);
        x.tick(1);
        dueStates("silently left", "001000333000");
        if (!whole) {
            x.lose(0, 1);
        }
        x.silence(0, false);
        x.drive(1, 9);
        x.tick(1);
        dueStates("whole " + whole, want);
    }

    private void tickFreesWhereNothingIsDetected() {
        x.enter(29, 1);
        x.authorise(0);
        x.drive(0, 9);
        x.silence(0, true);
        due("silent at 38", x.tick(1), 9);
        dueStates("LOCATED, but not detected", "000333000000");
        x.silence(0, false);
        due("told at 47", x.tick(1), 9);
        dueStates("LOCATED where it was UNKNOWN", "000323000000");
    }

    private void tickWithDetectionThatNoTrainExplains() {
        trainBeforeItsWagon();
        dueStates("a train is LOCATED in it", "032000000000");
        x.authorise(0);
        x.drive(0, 9);
        due("at 34, last place 29", x.tick(1), 9);
        dueStates("still", "032200000000");
        due("at 43", x.tick(1), 7);
        dueStates("no train is LOCATED in it", "333220000000");
    }

    private void tickAtAgeFiveAndSix() {
        x.enter(8, 5);
        x.authorise(0);
        x.drive(0, 3);
        x.silence(0, true);
        due("tick(5)", x.tick(5), 11);
        due("AGE", x.vehicle(0, 3), 5);
        dueStates("at AGE 5", "100000000000");
        due("tick(1)", x.tick(1), 9);
        due("AGE", x.vehicle(0, 3), 6);
        dueStates("at AGE 6", "333000000000");
        due("tick(4)", x.tick(4), 9);
        dueStates("with the train in the next detected one", "000333000000");
        x.silence(0, false);
        due("told again", x.tick(1), 9);
        dueStates("where it is, by its report", "000223000000");
    }

    private void tickWithAMuteTrainThatStands() {
        x.enter(15, 3);
        x.silence(0, true);
        due("tick(6)", x.tick(6), 11);
        dueStates("what it CLAIMS alone is UNKNOWN", "030000000000");
        x.silence(0, false);
        due("tick(1)", x.tick(1), 11);
        dueStates("UNKNOWN becomes AMBIGUOUS", "020000000000");
        x.authorise(0);
        x.drive(0, 9);
        due("at 24", x.tick(1), 10);
        dueStates("and UNKNOWN behind it", "031000000000");
    }

    private void tickAmbiguousStaysSo() {
        trainBeforeItsWagon();
        x.confirm(0);
        x.tick(3);
        dueStates("whole again, in the same place", "032000000000");
        x.clear(1);
        x.tick(3);
        dueStates("with the wagon cleared", "032000000000");
    }

    private void state() {
        x.enter(0, 1);
        x.enter(119, 1);
        due("state(0)", x.state(0), 1);
        due("state(1)", x.state(1), 0);
        due("state(11)", x.state(11), 1);
        x = new HybridTrack();
        trainBeforeItsWagon();
        due("UNKNOWN", x.state(1), 3);
        due("AMBIGUOUS", x.state(2), 2);
    }

    private void detected() {
        x.enter(29, 1);
        due("up to place 29", x.detected(0) * 10 + x.detected(1), 10);
        x.enter(61, 2);
        due("from place 60", x.detected(1) * 100 + x.detected(2) * 10 + x.detected(3), 10);
        x.enter(90, 2);
        due("over both", x.detected(2) * 10 + x.detected(3), 11);
        x = new HybridTrack();
        x.enter(31, 10);
        x.authorise(0);
        x.drive(0, 9);
        x.lose(0, 8);
        x.tick(1);
        due("by a wagon", x.detected(0) * 10 + x.detected(1), 11);
        x.clear(1);
        due("after clear", x.detected(0) * 10 + x.detected(1), 1);
    }

    private void vehicle() {
        x.enter(25, 20);
        x.authorise(0);
        x.drive(0, 3);
        x.silence(0, true);
        x.tick(2);
        dueVehicle(0, 31, 20);
        dueTrain(0, 119, 2, 25, 1);
        x.lose(0, 5);
        dueVehicle(0, 31, 15);
        dueTrain(0, 119, 2, 25, 0);
        dueVehicle(1, 16, 5);
    }

    private void countEach() {
        x.enter(25, 10);
        x.enter(119, 1);
        x.lose(0, 4);
        x.tick(3);
        dueStates("one of each at least", "032000000001");
        dueCounts(3, 2, 9, 1, 1, 1, 0, 3);
        x.clear(2);
        dueCounts(3, 2, 9, 1, 1, 1, 0, 3);
    }

    /** The train loses a wagon where it is silent, says that it is whole, and only then reports. */
    private void countWronglyFree() {
        x.enter(9, 5);
        x.lose(0, 1);
        x.tick(1);
        x.authorise(0);
        x.drive(0, 9);
        x.silence(0, true);
        x.tick(1);
        x.lose(0, 2);
        due("a train CLAIMS it", x.count(6), 0);
        due("confirm", x.confirm(0), 2);
        x.silence(0, false);
        x.tick(1);
        dueStates("with a wagon on one that is FREE", "301000000000");
        due("no train CLAIMS it", x.count(6), 1);
        x.clear(2);
        due("no vehicle stands on it", x.count(6), 0);
        x = new HybridTrack();
        x.enter(20, 1);
        due("on the place in front of a FREE one", x.count(6), 0);
        x = new HybridTrack();
        x.enter(19, 1);
        due("on the place behind a FREE one", x.count(6), 0);
    }
}
