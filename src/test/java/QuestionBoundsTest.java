/** The bounds that the promises 9 and 11 to 14 name: each sentence by a test of its own. */
public final class QuestionBoundsTest {
    private static final String[] WRONG_WHATS = {"least", "-1", "6", "7", "8", "greatest"};

    private QuestionBoundsTest() {
    }

    public static void main(String[] args) {
        Due.runAll(QuestionBoundsTest.class);
        Due.end();
    }

    static void promise9_takenOffTheTrack() {
        Sentence s = new Sentence("Promise 9", "A wagon is taken off the track: its length.");
        s.due("enter(39, 40) lose(0, 1)", "clear(1)", 1);
        s.due("enter(39, 40) lose(0, 39)", "clear(1)", 39);
        String wagonOn29 = "enter(30, 2) lose(0, 1) tick(1) ";
        s.due(wagonOn29, "detected(0) clear(1) detected(0)", "1 1 0");
        s.due(wagonOn29 + "clear(1)", "count(0) count(1)", "2 1");
        s.due(wagonOn29 + "clear(1)", "enter(29, 1)", 2);
        // The states are not found anew before the next tick.
        s.dueStates(wagonOn29, "333200000000");
        s.dueStates(wagonOn29 + "clear(1)", "333200000000");
        s.dueStates(wagonOn29 + "clear(1) tick(1)", "000200000000");
        String eight = "enter(39, 40) " + "lose(0, 2) ".repeat(7);
        s.due(eight, "clear(7) clear(1)", "2 2");
    }

    static void promise9_noSuchWagon() {
        Sentence s = new Sentence("Promise 9", "NoSuchElementException: no such wagon");
        s.dueOfEach(Sentence.EMPTY, "clear(#)", Sentence.NO_SUCH, "least", "-1", "0", "1", "7", "8", "greatest");
        s.dueOfEach(Sentence.MIXED, "clear(#)", Sentence.NO_SUCH, "least", "-1", "0", "2", "4", "7", "8", "greatest");
        s.dueOfEach(Sentence.FULL, "clear(#)", Sentence.NO_SUCH, "least", "-1", "0", "7", "8", "9", "greatest");
        s.due(Sentence.MIXED, "clear(1)", 4);
    }

    static void promise9_orItWasTakenOff() {
        Sentence s = new Sentence("Promise 9", "or it was taken off");
        s.due(Sentence.MIXED, "clear(3)", Sentence.NO_SUCH);
        s.due(Sentence.MIXED + "clear(1)", "clear(1)", Sentence.NO_SUCH);
        s.due("enter(39, 40) " + "lose(0, 2) ".repeat(7) + "clear(7) tick(6)", "clear(7)", Sentence.NO_SUCH);
    }

    static void promise11_theState() {
        Sentence s = new Sentence("Promise 11", "The state of a virtual section.");
        s.due("enter(9, 1) enter(110, 1)", "state(0) state(1) state(10) state(11)", "1 0 0 1");
        s.due("enter(25, 10) lose(0, 4) tick(1)", "state(0) state(1) state(2)", "0 3 2");
    }

    static void promise11_not0To11() {
        Sentence s = new Sentence("Promise 11", "IllegalArgumentException: not 0 .. 11.");
        s.dueOfEach(Sentence.EMPTY, "state(#)", "0", "0", "1", "10", "11");
        s.dueOfEach(Sentence.FULL, "state(#)", "1", "0", "1", "10", "11");
        for (String start : new String[] {Sentence.EMPTY, Sentence.MIXED, Sentence.FULL}) {
            s.dueOfEach(start, "state(#)", Sentence.ARGUMENT, "least", "-1", "12", "greatest");
        }
    }

    static void promise12_1IfOccupied() {
        Sentence s = new Sentence("Promise 12", "1 if a detected section is OCCUPIED, else 0.");
        s.due(Sentence.EMPTY, "detected(0) detected(1) detected(2) detected(3)", "0 0 0 0");
        s.due(Sentence.FULL, "detected(0) detected(1) detected(2) detected(3)", "1 1 1 1");
        s.due("enter(29, 1) enter(90, 1)", "detected(0) detected(1) detected(2) detected(3)", "1 0 0 1");
        s.due("enter(30, 1) enter(89, 1)", "detected(0) detected(1) detected(2) detected(3)", "0 1 1 0");
    }

    static void promise12_not0To3() {
        Sentence s = new Sentence("Promise 12", "IllegalArgumentException: not 0 .. 3.");
        s.dueOfEach(Sentence.EMPTY, "detected(#)", "0", "0", "3");
        for (String start : new String[] {Sentence.EMPTY, Sentence.MIXED, Sentence.FULL}) {
            s.dueOfEach(start, "detected(#)", Sentence.ARGUMENT, "least", "-1", "4", "greatest");
        }
    }

    static void promise13_ofAVehicle() {
        Sentence s = new Sentence("Promise 13", "Of a vehicle: front (0), length (1); of a train too: END (2), AGE (3), the front that"
            + " it reported (4), 1 if it is whole, else 0 (5).");
        String silent = "enter(25, 20) authorise(0) drive(0, 3) silence(0, true) tick(2) ";
        s.due(silent, ofVehicle(0), "31 20 119 2 25 1");
        s.due(silent + "lose(0, 5)", ofVehicle(0), "31 15 119 2 25 0");
        s.due(silent + "lose(0, 5)", "vehicle(1, 0) vehicle(1, 1)", "16 5");
        s.due("enter(0, 1)", ofVehicle(0), "0 1 0 0 0 1");
        s.due(Sentence.FULL, ofVehicle(7), "119 20 119 0 119 1");
    }

    private static String ofVehicle(int number) {
        return "vehicle(#, 0) vehicle(#, 1) vehicle(#, 2) vehicle(#, 3) vehicle(#, 4) vehicle(#, 5)"
            .replace("#", String.valueOf(number));
    }

    static void promise13_noSuchVehicle() {
        Sentence s = new Sentence("Promise 13", "NoSuchElementException: no such vehicle");
        for (int what = 0; what < 6; what++) {
            s.dueOfEach(Sentence.EMPTY, "vehicle(#, " + what + ")", Sentence.NO_SUCH, "least", "-1", "0", "7", "8", "greatest");
            s.dueOfEach(Sentence.MIXED, "vehicle(#, " + what + ")", Sentence.NO_SUCH, "least", "-1", "4", "7", "8", "greatest");
            s.dueOfEach(Sentence.FULL, "vehicle(#, " + what + ")", Sentence.NO_SUCH, "least", "-1", "8", "9", "greatest");
        }
    }

    static void promise13_orItWasTakenOff() {
        Sentence s = new Sentence("Promise 13", "or it was taken off");
        for (int what = 0; what < 6; what++) {
            s.due(Sentence.MIXED, "vehicle(3, " + what + ")", Sentence.NO_SUCH);
            s.due(Sentence.MIXED + "clear(1)", "vehicle(1, " + what + ")", Sentence.NO_SUCH);
        }
    }

    static void promise13_orNoTrain() {
        Sentence s = new Sentence("Promise 13", "or no train (2 to 5)");
        s.due(Sentence.MIXED, "vehicle(1, 0) vehicle(1, 1)", "19 4");
        s.dueOfEach(Sentence.MIXED, "vehicle(1, #)", Sentence.NO_SUCH, "2", "3", "4", "5");
    }

    static void promise13_anotherWhat() {
        Sentence s = new Sentence("Promise 13", "IllegalArgumentException, before the latter: another what.");
        s.dueOfEach(Sentence.MIXED, "vehicle(0, #)", Sentence.ARGUMENT, WRONG_WHATS);
        s.dueOfEach(Sentence.MIXED, "vehicle(1, #)", Sentence.ARGUMENT, WRONG_WHATS);
        s.dueOfEach(Sentence.FULL, "vehicle(7, #)", Sentence.ARGUMENT, WRONG_WHATS);
    }

    static void promise13_theVehicleIsTestedFirst() {
        Sentence s = new Sentence("Promise 13", "no such vehicle, or it was taken off; or no train (2 to 5)."
            + " IllegalArgumentException, before the latter");
        for (String number : new String[] {"least", "-1", "3", "4", "8", "greatest"}) {
            s.dueOfEach(Sentence.MIXED, "vehicle(" + number + ", #)", Sentence.NO_SUCH, WRONG_WHATS);
        }
        s.dueOfEach(Sentence.EMPTY, "vehicle(0, #)", Sentence.NO_SUCH, WRONG_WHATS);
        s.dueOfEach(Sentence.FULL, "vehicle(8, #)", Sentence.NO_SUCH, WRONG_WHATS);
    }

    static void promise14_vehiclesAndTrains() {
        Sentence s = new Sentence("Promise 14", "Vehicles that came (0), trains (1)");
        s.due(Sentence.EMPTY, "count(0) count(1)", "0 0");
        s.due(Sentence.FULL, "count(0) count(1)", "8 8");
        s.due(Sentence.MIXED, "count(0) count(1)", "4 2");
        s.due("enter(39, 40) " + "lose(0, 1) ".repeat(7) + "clear(7)", "count(0) count(1)", "8 1");
    }

    static void promise14_sectionsByState() {
        Sentence s = new Sentence("Promise 14", "virtual sections that are FREE (2), OCCUPIED (3), AMBIGUOUS (4), UNKNOWN (5)");
        s.due(Sentence.EMPTY, "count(2) count(3) count(4) count(5)", "12 0 0 0");
        s.due(Sentence.FULL, "count(2) count(3) count(4) count(5)", "0 12 0 0");
        s.due("enter(39, 40) enter(79, 40) enter(119, 40) lose(0, 1) lose(1, 1) lose(2, 1) tick(1)",
            "count(2) count(3) count(4) count(5)", "0 0 12 0");
        s.due(Sentence.FULL + everyTrain("silence(#, true)") + "tick(6)", "count(2) count(3) count(4) count(5)", "0 0 0 12");
        s.due("enter(25, 10) lose(0, 4) enter(119, 1) tick(1)", "count(2) count(3) count(4) count(5)", "9 1 1 1");
    }

    private static String everyTrain(String call) {
        StringBuilder all = new StringBuilder();
        for (int train = 0; train < 8; train++) {
            all.append(call.replace("#", String.valueOf(train))).append(' ');
        }
        return all.toString();
    }

    /** The train loses wagon 2 in section 1 where it is silent, says that it is whole, and only then reports. */
    static void promise14_freeAndStoodOn() {
        Sentence s = new Sentence("Promise 14", "virtual sections that are FREE, that no train CLAIMS, and on which a vehicle stands (6)");
        String unseen = wagonUnseen(9, 2);
        s.due(unseen, "vehicle(2, 0) state(1) count(6)", "16 0 0");
        s.due(unseen + "tick(1)", "vehicle(2, 0) state(1) count(6)", "16 0 1");
        s.due(unseen + "tick(1) clear(2)", "state(1) count(6)", "0 0");
        s.due(unseen + "tick(1) enter(19, 1)", "state(1) count(6)", "1 0");
        s.due(Sentence.EMPTY, "count(6)", 0);
        s.due(Sentence.FULL, "count(6)", 0);
    }

    static void promise14_aVehicleStandsOnAPlaceOfTheSection() {
        Sentence s = new Sentence("Promise 14", "and on which a vehicle stands (6)");
        s.due(wagonUnseen(4, 1) + "tick(1)", "vehicle(2, 0) state(1) count(6)", "10 0 1");
        s.due(wagonUnseen(13, 1) + "drive(0, 1) tick(1)", "vehicle(2, 0) state(1) count(6)", "19 0 1");
        s.due(wagonUnseen(14, 1) + "drive(0, 1) tick(1)", "vehicle(2, 0) state(1) count(6)", "20 0 0");
        s.due("enter(20, 1)", "state(1) count(6)", "0 0");
        s.due("enter(9, 1)", "state(1) count(6)", "0 0");
    }

    /** From 6 .. 9 silently on by so many places, where it loses so many; it has not yet told of it. */
    private static String wagonUnseen(int gone, int lost) {
        String byNine = gone > 9 ? "drive(0, 9) tick(1) " : "";
        int rest = gone > 9 ? gone - 9 : gone;
        return "enter(9, 5) lose(0, 1) tick(1) authorise(0) silence(0, true) " + byNine + "drive(0, " + rest + ") tick(1)"
            + " lose(0, " + lost + ") confirm(0) silence(0, false) drive(0, 9) ";
    }

    static void promise14_ticks() {
        Sentence s = new Sentence("Promise 14", "ticks (7)");
        s.due(Sentence.EMPTY, "count(7)", 0);
        s.due("tick(1)", "count(7)", 1);
        s.due("tick(6) tick(6) tick(1)", "count(7)", 13);
        s.due(Sentence.FULL, "count(7)", 0);
    }

    static void promise14_anotherNumber() {
        Sentence s = new Sentence("Promise 14", "IllegalArgumentException: another number.");
        for (String start : new String[] {Sentence.EMPTY, Sentence.MIXED, Sentence.FULL}) {
            s.dueOfEach(start, "count(#)", Sentence.ARGUMENT, "least", "-1", "8", "greatest");
        }
        s.due(Sentence.EMPTY, "count(0) count(7)", "0 0");
    }
}
