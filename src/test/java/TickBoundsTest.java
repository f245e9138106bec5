/** The bounds that the terms name of a tick, and promise 10: each sentence by a test of its own. */
public final class TickBoundsTest {
    private static final String GO = "authorise(0) drive(0, 9) ";
    /** Train 0, not whole, on 60 .. 62; by its reports it has LEFT section 5, and nothing stands in sections 3 to 5. */
    private static final String HAS_LEFT_5 = "enter(35, 4) lose(0, 1) tick(1) clear(1) " + GO + "tick(3) ";
    /** Wagon 1 on 16 .. 19, which train 0 in front of it has lost, and reported so. */
    private static final String WAGON_ON_16_TO_19 = "enter(25, 10) lose(0, 4) tick(1) ";
    /** Train 0 on 25, END 39, as train 1 was on 45 then; that is on 72 now. */
    private static final String END_39 = "enter(25, 1) enter(45, 1) authorise(0) authorise(1) drive(1, 9) tick(3) drive(1, 0) ";

    private TickBoundsTest() {
    }

    public static void main(String[] args) {
        Due.runAll(TickBoundsTest.class);
        Due.end();
    }

    static void terms_goesForwardByItsSpeed() {
        Sentence s = new Sentence("Terms", "1. every train, by rising numbers, goes forward by its speed");
        for (int speed = 0; speed < 10; speed++) {
            s.due("enter(5, 1) authorise(0) drive(0, " + speed + ") tick(1)", "vehicle(0, 0)", 5 + speed);
            s.due("enter(5, 1) authorise(0) drive(0, " + speed + ") tick(6)", "vehicle(0, 0)", 5 + 6 * speed);
        }
        s.due("enter(5, 1) enter(65, 1) authorise(1) authorise(0) drive(0, 9) drive(1, 2) tick(1)",
            "vehicle(0, 0) vehicle(1, 0)", "14 67");
        s.due("enter(65, 1) enter(5, 1) authorise(0) authorise(1) drive(1, 9) drive(0, 2) tick(1)",
            "vehicle(0, 0) vehicle(1, 0)", "67 14");
        String seven = "enter(5, 1) enter(15, 1) enter(25, 1) enter(35, 1) enter(45, 1) enter(55, 1) enter(65, 1) ";
        s.due(seven + "enter(75, 1) authorise(7) drive(7, 9) tick(1)", "vehicle(7, 0)", 84);
    }

    static void terms_notBeyondItsEnd() {
        Sentence s = new Sentence("Terms", "but not beyond its END");
        String end19 = "enter(#, 1) enter(25, 1) authorise(0) drive(0, 9) tick(1)";
        s.due(end19.replace("#", "9"), "vehicle(0, 0)", 18);
        s.due(end19.replace("#", "10"), "vehicle(0, 0)", 19);
        s.due(end19.replace("#", "11"), "vehicle(0, 0)", 19);
        s.due(end19.replace("#", "18"), "vehicle(0, 0)", 19);
        s.due(end19.replace("#", "19"), "vehicle(0, 0)", 19);
        s.due("enter(10, 1) drive(0, 9) tick(6)", "vehicle(0, 0)", 10);
        s.due("enter(10, 1) " + GO + "relent(0) tick(6)", "vehicle(0, 0)", 10);
        s.due("enter(118, 1) " + GO + "tick(6)", "vehicle(0, 0)", 119);
        // A silent train, and a MUTE one, goes no farther either.
        s.due("enter(9, 1) enter(25, 1) authorise(0) drive(0, 9) silence(0, true) tick(6) tick(6)", "vehicle(0, 0)", 19);
    }

    static void terms_stopsBeforeAnotherVehicle() {
        Sentence s = new Sentence("Terms", "and not onto a place on which another vehicle stands then: it stops before that");
        String behind = WAGON_ON_16_TO_19 + "enter(#, 1) authorise(2) drive(2, 5) tick(1)";
        s.due(behind.replace("#", "15"), "vehicle(2, 0) vehicle(2, 2)", "15 19");
        s.due(behind.replace("#", "14"), "vehicle(2, 0)", 15);
        s.due(behind.replace("#", "11"), "vehicle(2, 0)", 15);
        s.due(behind.replace("#", "10"), "vehicle(2, 0)", 15);
        s.due(WAGON_ON_16_TO_19 + "enter(10, 1) authorise(2) drive(2, 4) tick(1)", "vehicle(2, 0)", 14);
        s.due(WAGON_ON_16_TO_19 + "enter(10, 1) authorise(2) drive(2, 9) tick(6)", "vehicle(2, 0)", 15);
        s.due(WAGON_ON_16_TO_19 + "enter(10, 1) authorise(2) drive(2, 9) clear(1) tick(1)", "vehicle(2, 0)", 19);
        // What stands behind it does not stop it: its own wagon, just behind its last place.
        s.due("enter(25, 10) lose(0, 4) " + GO + "tick(1)", "vehicle(0, 0) vehicle(1, 0)", "34 19");
    }

    static void terms_theAgeOfOthersIsOneMore() {
        Sentence s = new Sentence("Terms", "2. Every train that is not silent reports (AGE 0); the AGE of others is one more.");
        String two = "enter(5, 1) enter(15, 1) silence(1, true) ";
        s.due(two, "vehicle(0, 3) vehicle(1, 3)", "0 0");
        s.due(two + "tick(1)", "vehicle(0, 3) vehicle(1, 3)", "0 1");
        s.due(two + "tick(6)", "vehicle(0, 3) vehicle(1, 3)", "0 6");
        s.due(two + "tick(6) tick(6)", "vehicle(0, 3) vehicle(1, 3)", "0 12");
        s.due(two + "tick(6) silence(1, false)", "vehicle(1, 3)", 6);
        s.due(two + "tick(6) silence(1, false) tick(1)", "vehicle(1, 3)", 0);
        s.due("enter(5, 1) " + GO + "tick(2)", "vehicle(0, 3) vehicle(0, 4)", "0 23");
    }

    static void terms_notOccupiedIsFree() {
        Sentence s = new Sentence("Terms", "in a detected section that is not OCCUPIED: FREE");
        s.dueStates("enter(28, 1) authorise(0) drive(0, 1) tick(1)", "001000000000");
        s.dueStates("enter(29, 1) authorise(0) drive(0, 1) tick(1)", "000100000000");
        s.dueStates("enter(29, 2) authorise(0) drive(0, 1) tick(1)", "001100000000");
        // LOCATED there by its report, but gone.
        s.dueStates("enter(29, 1) authorise(0) drive(0, 1) silence(0, true) tick(1)", "000333000000");
        // UNKNOWN and AMBIGUOUS ones too, as soon as nothing stands there.
        s.dueStates(WAGON_ON_16_TO_19 + GO + "tick(2)", "333220000000");
        s.dueStates(WAGON_ON_16_TO_19 + GO + "tick(2) clear(1) tick(1)", "000322000000");
        s.dueStates(WAGON_ON_16_TO_19 + GO + "clear(1) tick(2)", "000220000000");
    }

    static void terms_oneWholeTrainLocated() {
        Sentence s = new Sentence("Terms", "if it is just one, its report was WHOLE, and the state was FREE or OCCUPIED: OCCUPIED;"
            + " otherwise AMBIGUOUS");
        s.dueStates("enter(25, 3)", "001000000000");
        s.dueStates("enter(25, 3) tick(1)", "001000000000");
        s.dueStates("enter(25, 3) lose(0, 1)", "001000000000");
        s.dueStates("enter(25, 3) lose(0, 1) tick(1)", "002000000000");
        // Its report was WHOLE, though the train is not.
        s.dueStates("enter(25, 3) silence(0, true) lose(0, 1) tick(1)", "001000000000");
        // Its report was not WHOLE, though the train is.
        s.dueStates("enter(25, 3) lose(0, 1) tick(1) silence(0, true) confirm(0) tick(1)", "002000000000");
        // It is WHOLE, but the state was AMBIGUOUS, or UNKNOWN; on the next section it was FREE.
        s.dueStates("enter(25, 3) lose(0, 1) tick(1) confirm(0) tick(6)", "002000000000");
        s.dueStates("enter(25, 3) silence(0, true) tick(6)", "003000000000");
        s.dueStates("enter(25, 3) silence(0, true) tick(6) silence(0, false) tick(1)", "002000000000");
        s.dueStates("enter(25, 3) silence(0, true) tick(6) silence(0, false) tick(1) authorise(0) drive(0, 6) tick(1)",
            "002100000000");
        // Not WHOLE, on a section that was FREE.
        s.dueStates("enter(25, 3) lose(0, 1) authorise(0) drive(0, 5) tick(1)", "002200000000");
    }

    static void terms_freeStaysWithATrainLocatedThere() {
        Sentence s = new Sentence("Terms", "what was FREE stays so, if any train is LOCATED anywhere in the detected section");
        s.dueStates("enter(30, 1) tick(1)", "000100000000");
        s.dueStates("enter(45, 1) tick(1)", "000010000000");
        s.dueStates("enter(59, 1) tick(1)", "000001000000");
        // The last place of the train in front of the wagon is in the detected section, or just behind it.
        s.dueStates("enter(62, 5) lose(0, 1) tick(1)", "000002200000");
        s.dueStates("enter(62, 5) lose(0, 2) tick(1)", "000333200000");
        // The front of a train, by its report, is just before a detected section into which it has gone.
        s.dueStates("enter(29, 2) authorise(0) drive(0, 1) silence(0, true) tick(1)", "001333000000");
        s.dueStates("enter(30, 3) authorise(0) drive(0, 1) silence(0, true) tick(1)", "001100000000");
    }

    static void terms_freeStaysWithAMuteTrainThatClaims() {
        Sentence s = new Sentence("Terms", "or is MUTE and CLAIMS a virtual section of it");
        s.due(END_39, "vehicle(0, 0) vehicle(0, 2) vehicle(1, 0)", "25 39 72");
        s.dueStates(END_39, "001000010000");
        // AGE 6: it CLAIMS section 3, the first one of those; AGE 5: it is not yet MUTE.
        s.dueStates(END_39 + "silence(0, true) tick(5) drive(0, 9) tick(1)", "000300010000");
        s.dueStates(END_39 + "silence(0, true) tick(4) drive(0, 9) tick(1)", "000333010000");
        // Train 0 is MUTE, but CLAIMS nothing from section 3 on; train 1 goes there silently.
        s.dueStates("enter(15, 1) silence(0, true) tick(6) enter(25, 1) authorise(1) drive(1, 9) silence(1, true) tick(1)",
            "031333000000");
        // It CLAIMS the last one of those, section 2, where it was by its report, and all in front of it.
        s.dueStates("enter(25, 1) " + GO + "silence(0, true) tick(6)", "000000333000");
    }

    static void terms_freeAndLeftByATrainNotWhole() {
        Sentence s = new Sentence("Terms", "and no train of AGE 0 whose report was not WHOLE has LEFT it; otherwise it is UNKNOWN");
        s.due(HAS_LEFT_5, "vehicle(0, 0) vehicle(0, 1) state(5) detected(1)", "62 3 0 0");
        // AGE 0, and AGE 1.
        s.dueStates(HAS_LEFT_5 + "enter(35, 1)", "000103200000");
        s.dueStates(HAS_LEFT_5 + "silence(0, true) tick(1) enter(35, 1)", "000100200000");
        // By its AGE, not by whether it is silent.
        s.dueStates(HAS_LEFT_5 + "silence(0, true) enter(35, 1)", "000103200000");
        s.dueStates(HAS_LEFT_5 + "silence(0, true) tick(1) silence(0, false) enter(35, 1)", "000100200000");
        // Its report was WHOLE.
        s.dueStates("enter(35, 4) lose(0, 1) tick(1) clear(1) " + GO + "tick(2) confirm(0) tick(1) enter(35, 1)", "000100100000");
        // It says that it is WHOLE, but has not reported so; it is no longer whole, but has not reported so.
        s.dueStates(HAS_LEFT_5 + "confirm(0) enter(35, 1)", "000103200000");
        s.dueStates("enter(35, 4) lose(0, 1) tick(1) clear(1) " + GO + "tick(2) confirm(0) tick(1) lose(0, 1) enter(35, 1)",
            "000100100000");
        // A tick later, still in section 6, it has LEFT none by its last two reports.
        s.dueStates(HAS_LEFT_5 + "drive(0, 1) tick(1) enter(35, 1)", "000100200000");
    }

    static void terms_whatATrainHasLeft() {
        Sentence s = new Sentence("Terms", "It has LEFT the virtual sections from that of the last place of its report before up to the"
            + " one before that of the last place of its report");
        // Silently from 5 .. 9 over section 1: the last place comes to 20, so that sections 0 and 1 are LEFT, or to 19.
        String silently = "enter(9, 5) " + GO + "silence(0, true) tick(1) lose(0, 2) silence(0, false) ";
        s.dueStates(silently + "drive(0, 4) tick(1)", "332000000000");
        s.dueStates(silently + "drive(0, 3) tick(1)", "322000000000");
        // From the report before on: section 5, where it was by that; not section 4, behind it.
        String leaves5 = "enter(59, 3) enter(25, 1) authorise(0) authorise(1) drive(0, 9) silence(0, true) tick(1) lose(0, 1)"
            + " silence(0, false) drive(1, 9) tick(1) ";
        s.dueStates(leaves5, "000103323000");
    }

    static void terms_hasLeftNoneBeforeItsSecondReport() {
        Sentence s = new Sentence("Terms", "none before its second one");
        // Trains in later sections than 0, new on the track: those behind them are not LEFT.
        s.dueStates("enter(5, 1) enter(25, 3)", "101000000000");
        s.dueStates("enter(5, 1) enter(25, 3) lose(1, 1) enter(45, 1)", "101010000000");
        s.dueStates("enter(5, 1) enter(25, 3) lose(1, 1) tick(1)", "102000000000");
    }

    static void terms_whatWasOccupied() {
        Sentence s = new Sentence("Terms", "What was OCCUPIED is FREE if just one train was LOCATED there when states were found before,"
            + " and that has AGE 0, and its report was WHOLE; otherwise UNKNOWN.");
        s.dueStates("enter(9, 2) authorise(0) drive(0, 1) tick(1)", "110000000000");
        s.dueStates("enter(9, 2) authorise(0) drive(0, 2) tick(1)", "010000000000");
        s.dueStates("enter(9, 2) authorise(0) drive(0, 2) lose(0, 1) tick(1)", "320000000000");
        // At AGE 5 it is still LOCATED there; at AGE 6 it is not, and its AGE is not 0.
        s.dueStates("enter(9, 2) silence(0, true) tick(5)", "100000000000");
        s.dueStates("enter(9, 2) silence(0, true) tick(6)", "300000000000");
        // Found before by enter, too.
        s.dueStates("enter(9, 2) enter(119, 1) authorise(0) drive(0, 9) tick(1)", "010000000001");
        // Not whole, but by its report it was.
        s.dueStates("enter(9, 2) authorise(0) drive(0, 2) tick(1) lose(0, 1)", "010000000000");
    }

    static void terms_whatWasAmbiguousOrUnknown() {
        Sentence s = new Sentence("Terms", "What was AMBIGUOUS or UNKNOWN is UNKNOWN.");
        String ambiguous = "enter(9, 3) lose(0, 1) tick(1) confirm(0) clear(1) tick(1) ";
        s.dueStates(ambiguous, "200000000000");
        s.dueStates(ambiguous + GO + "tick(1)", "310000000000");
        s.dueStates(ambiguous + GO + "tick(1) drive(0, 0) tick(6)", "310000000000");
        s.dueStates(ambiguous + GO + "tick(1) relent(0) enter(119, 1)", "310000000001");
    }

    static void terms_freeAndClaimedByAMuteTrain() {
        Sentence s = new Sentence("Terms", "4. A section that is then FREE, and that a MUTE train CLAIMS, in an OCCUPIED detected section,"
            + " is UNKNOWN.");
        s.dueStates("enter(5, 1) authorise(0) silence(0, true) tick(5)", "100000000000");
        s.dueStates("enter(5, 1) authorise(0) silence(0, true) tick(6)", "333000000000");
        s.dueStates("enter(5, 1) silence(0, true) tick(6)", "300000000000");
        s.dueStates("enter(5, 1) enter(25, 1) authorise(0) silence(0, true) tick(6)", "331000000000");
        s.dueStates("enter(5, 1) enter(15, 1) authorise(0) silence(0, true) tick(6)", "310000000000");
        // In what is not OCCUPIED it is FREE; as soon as anything stands there, UNKNOWN.
        s.dueStates("enter(25, 1) enter(95, 1) authorise(0) silence(0, true) tick(6)", "003000000100");
        s.dueStates("enter(25, 1) enter(95, 1) authorise(0) silence(0, true) tick(6) drive(0, 9) tick(1)", "000333000100");
        s.dueStates("enter(25, 1) enter(75, 1) authorise(0) silence(0, true) tick(6)", "003000310000");
        // By enter too: train 0 CLAIMS section 6, and then the train in section 8 comes.
        String claims2To6 = "enter(25, 1) enter(75, 1) authorise(0) authorise(1) drive(1, 9) tick(2) drive(1, 0)"
            + " silence(0, true) tick(6) ";
        s.dueStates(claims2To6, "003000000100");
        s.dueStates(claims2To6 + "enter(85, 1)", "003000301100");
    }

    /** Not before the next tick, or the next train that comes, whatever else is called. */
    static void terms_statesAreFoundAnewInATick() {
        Sentence s = new Sentence("Terms", "3. States are found anew, all at once, from what they were");
        String stale = "032000333220";
        String[] calls = {"", "drive(0, 0)", "silence(0, true)", "silence(2, false)", "authorise(0)", "relent(0)", "lose(0, 1)",
            "lose(2, 5)", "confirm(0)", "clear(1)", "state(6)", "detected(2)", "vehicle(0, 0)", "count(6)"};
        for (String call : calls) {
            s.dueStates(Sentence.MIXED + call, stale);
        }
        s.dueStates(Sentence.MIXED + "tick(1)", "032000000220");
        s.dueStates(Sentence.MIXED + "enter(115, 1)", "032000000221");
    }

    static void terms_aCallThatThrowsChangesNothing() {
        Sentence s = new Sentence("Terms", "What is thrown is told in the order of testing; a call that throws changes nothing.");
        s.due(Sentence.MIXED, "tick(7)", Sentence.ARGUMENT);
        s.due(Sentence.MIXED, "enter(27, 1)", Sentence.STATE);
        s.due(Sentence.MIXED, "enter(19, 1)", Sentence.STATE);
        s.due(Sentence.MIXED, "drive(0, 10)", Sentence.ARGUMENT);
        s.due(Sentence.MIXED, "silence(1, true)", Sentence.NO_SUCH);
        s.due(Sentence.MIXED, "authorise(2)", Sentence.STATE);
        s.due(Sentence.MIXED, "relent(2)", Sentence.STATE);
        s.due(Sentence.MIXED, "lose(0, 6)", Sentence.ARGUMENT);
        s.due(Sentence.MIXED + "confirm(0)", "confirm(0)", Sentence.STATE);
        s.due(Sentence.MIXED, "clear(3)", Sentence.NO_SUCH);
    }

    static void promise10_makesNTicks() {
        Sentence s = new Sentence("Promise 10", "Makes n (1 .. 6) ticks");
        String going = "enter(5, 2) lose(0, 1) " + GO;
        for (int n = 1; n <= 6; n++) {
            s.due(going + "tick(" + n + ")", "count(7) vehicle(0, 0)", n + " " + (5 + 9 * n));
            s.due(going + "tick(1) ".repeat(n), "count(7) vehicle(0, 0)", n + " " + (5 + 9 * n));
        }
        s.dueStates(going + "tick(6)", "333332000000");
        s.dueStates(going + "tick(1) ".repeat(6), "333332000000");
    }

    static void promise10_answersHowManyAreFree() {
        Sentence s = new Sentence("Promise 10", "answers how many virtual sections are FREE");
        s.due(Sentence.EMPTY, "tick(1)", 12);
        s.due(Sentence.EMPTY, "tick(6)", 12);
        s.due(Sentence.FULL, "tick(1)", 0);
        s.due(Sentence.FULL, "tick(6)", 0);
        s.due("enter(39, 40) enter(79, 40) enter(109, 30)", "tick(1)", 1);
        s.due("enter(119, 1)", "tick(1)", 11);
        // As they are after the last of the ticks.
        s.due("enter(9, 1) authorise(0) drive(0, 1)", "tick(1) tick(1) tick(6)", "11 11 11");
        s.due("enter(9, 2) authorise(0) drive(0, 1)", "tick(1) tick(1)", "10 11");
        s.due("enter(9, 2) authorise(0) drive(0, 1)", "tick(2)", 11);
    }

    static void promise10_outOfRange() {
        Sentence s = new Sentence("Promise 10", "IllegalArgumentException: out of range.");
        s.dueOfEach(Sentence.EMPTY, "tick(#)", "12", "1", "2", "5", "6");
        for (String start : new String[] {Sentence.EMPTY, Sentence.MIXED, Sentence.FULL}) {
            s.dueOfEach(start, "tick(#)", Sentence.ARGUMENT, "least", "-1", "0", "7", "greatest");
        }
    }

    /** All stand on the full track at the greatest speed, and none has anywhere to go. */
    static void promise10_onAFullTrack() {
        Sentence s = new Sentence("Promise 10", "Makes n (1 .. 6) ticks");
        StringBuilder full = new StringBuilder(Sentence.FULL);
        for (int train = 0; train < 8; train++) {
            full.append("authorise(").append(train).append(") drive(").append(train).append(", 9) ");
        }
        s.dueStates(full + "tick(6)", "111111111111");
        s.due(full + "tick(6)", "vehicle(0, 0) vehicle(1, 0) vehicle(4, 0) vehicle(7, 0)", "9 19 59 119");
    }
}
