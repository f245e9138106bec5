/** The bounds that the promises 1 and 2 name: each sentence by a test of its own. */
public final class EnterBoundsTest {
    /** Train 0 on 20 .. 28, CLAIMS section 2; its wagon 1 on 14 .. 16, in section 1 that no train CLAIMS. */
    private static final String WAGON_ON_14_TO_16 = "enter(25, 12) lose(0, 3) authorise(0) drive(0, 3) tick(1) relent(0) ";

    private EnterBoundsTest() {
    }

    public static void main(String[] args) {
        Due.runAll(EnterBoundsTest.class);
        Due.end();
    }

    static void promise1_theStateThatTheTermsGive() {
        Sentence s = new Sentence("Promise 1", "makes an object in the state that the terms give");
        s.dueStates(Sentence.EMPTY, "000000000000");
        s.due(Sentence.EMPTY, "detected(0) detected(1) detected(2) detected(3)", "0 0 0 0");
        s.due(Sentence.EMPTY, "count(0) count(1) count(2) count(3) count(4) count(5) count(6) count(7)", "0 0 12 0 0 0 0 0");
        s.due(Sentence.EMPTY, "vehicle(0, 0)", Sentence.NO_SUCH);
        s.due(Sentence.EMPTY, "enter(50, 1)", 0);
    }

    static void promise1_eachObjectIsItsOwn() {
        Sentence s = new Sentence("Promise 1", "makes an object");
        Run.after(Sentence.FULL + "tick(6)");
        s.dueStates(Sentence.EMPTY, "000000000000");
        s.due(Sentence.EMPTY, "count(0) count(7)", "0 0");
        s.due(Sentence.EMPTY, "enter(119, 40)", 0);
    }

    static void promise2_aTrainComes() {
        Sentence s = new Sentence("Promise 2", "A train comes, with front and length, speed 0 and its front as END, whole");
        dueOfNewTrain(s, 0, 1);
        dueOfNewTrain(s, 119, 1);
        dueOfNewTrain(s, 39, 40);
        dueOfNewTrain(s, 119, 40);
        s.due("enter(50, 1) tick(6)", "vehicle(0, 0)", 50);
        s.due("enter(50, 1) drive(0, 9) tick(6)", "vehicle(0, 0)", 50);
        s.due(Sentence.FULL, "vehicle(7, 0) vehicle(7, 1) vehicle(7, 2) vehicle(7, 5) drive(7, 1)", "119 20 119 1 0");
    }

    private static void dueOfNewTrain(Sentence s, int front, int length) {
        String start = "enter(" + front + ", " + length + ")";
        s.due(start, "vehicle(0, 0) vehicle(0, 1) vehicle(0, 2) vehicle(0, 5)", front + " " + length + " " + front + " 1");
        s.due(start, "drive(0, 9)", 0);
        s.due(start, "silence(0, false)", 0);
    }

    static void promise2_reportsAtOnce() {
        Sentence s = new Sentence("Promise 2", "it reports at once");
        s.due("enter(0, 1)", "vehicle(0, 3) vehicle(0, 4)", "0 0");
        s.due("tick(6) enter(119, 40)", "vehicle(0, 3) vehicle(0, 4)", "0 119");
        s.due("enter(5, 3) authorise(0) relent(0) silence(0, true) tick(6) enter(15, 3)", "vehicle(1, 3)", 0);
    }

    static void promise2_statesAreFoundAnew() {
        Sentence s = new Sentence("Promise 2", "states are found anew as in a tick");
        s.dueStates("enter(0, 1)", "100000000000");
        s.dueStates("enter(119, 40)", "000000001111");
        s.dueStates("enter(39, 40)", "111100000000");
        s.dueStates(Sentence.FULL, "111111111111");
        String wagonTakenOff = "enter(25, 10) lose(0, 4) tick(1) authorise(0) drive(0, 9) tick(2) relent(0) clear(1) ";
        s.dueStates(wagonTakenOff, "333220000000");
        s.dueStates(wagonTakenOff + "enter(119, 1)", "000220000001");
        s.dueStates(wagonTakenOff + "enter(29, 1)", "332220000000");
    }

    static void promise2_enterIsNoTick() {
        Sentence s = new Sentence("Promise 2", "it reports at once, and states are found anew as in a tick");
        String silent = "enter(5, 3) enter(25, 1) authorise(0) drive(0, 4) silence(0, true) tick(2) enter(45, 1) ";
        s.due(silent, "vehicle(0, 0) vehicle(0, 3) vehicle(0, 4) count(7)", "13 2 5 2");
        String toldAgain = "enter(5, 3) enter(25, 1) authorise(0) drive(0, 4) silence(0, true) tick(2)"
            + " silence(0, false) enter(45, 1) ";
        s.due(toldAgain, "vehicle(0, 0) vehicle(0, 3) vehicle(0, 4) count(7)", "13 2 5 2");
    }

    static void promise2_answersItsNumber() {
        Sentence s = new Sentence("Promise 2", "Answers its number.");
        s.due(Sentence.EMPTY, "enter(0, 1)", 0);
        s.due("enter(25, 10) lose(0, 1) clear(1)", "enter(119, 1)", 2);
        s.due(Sentence.MIXED, "enter(119, 1)", 4);
        s.due("enter(39, 40) " + "lose(0, 1) ".repeat(6), "enter(119, 1)", 7);
    }

    static void promise2_lengthNot1To40() {
        Sentence s = new Sentence("Promise 2", "IllegalArgumentException: length not 1 .. 40");
        s.dueOfEach(Sentence.EMPTY, "enter(50, #)", "0", "1", "2", "39", "40");
        s.dueOfEach(Sentence.EMPTY, "enter(50, #)", Sentence.ARGUMENT, "least", "-40", "-1", "0", "41", "greatest");
        s.dueOfEach(Sentence.EMPTY, "enter(119, #)", Sentence.ARGUMENT, "least", "-1", "0", "41", "120", "121", "greatest");
        s.dueOfEach(Sentence.MIXED, "enter(119, #)", "4", "1", "10");
        s.dueOfEach(Sentence.MIXED, "enter(119, #)", Sentence.ARGUMENT, "least", "-1", "0", "41", "greatest");
    }

    static void promise2_frontOnTheTrack() {
        Sentence s = new Sentence("Promise 2", "or front or its last place not on the track");
        s.dueOfEach(Sentence.EMPTY, "enter(#, 1)", "0", "0", "1", "118", "119");
        s.dueOfEach(Sentence.EMPTY, "enter(#, 1)", Sentence.ARGUMENT, "least", "-1", "120", "121", "greatest");
        s.dueOfEach(Sentence.EMPTY, "enter(#, 40)", Sentence.ARGUMENT, "least", "-1", "120", "130", "158", "159", "greatest");
        s.dueOfEach(Sentence.EMPTY, "enter(#, 2)", Sentence.ARGUMENT, "least", "-2147483647", "-1", "120", "greatest");
        s.dueOfEach(Sentence.MIXED, "enter(#, 1)", Sentence.ARGUMENT, "least", "-1", "120", "greatest");
    }

    static void promise2_lastPlaceOnTheTrack() {
        Sentence s = new Sentence("Promise 2", "or its last place not on the track");
        s.dueOfEach(Sentence.EMPTY, "enter(#, 40)", "0", "39", "40");
        s.dueOfEach(Sentence.EMPTY, "enter(#, 40)", Sentence.ARGUMENT, "0", "1", "37", "38");
        s.dueOfEach(Sentence.EMPTY, "enter(0, #)", Sentence.ARGUMENT, "2", "40");
        s.due(Sentence.EMPTY, "enter(1, 2)", 0);
        s.due(Sentence.EMPTY, "enter(1, 3)", Sentence.ARGUMENT);
        s.due(Sentence.MIXED, "enter(9, 10)", 4);
        s.due(Sentence.MIXED, "enter(9, 11)", Sentence.ARGUMENT);
    }

    /** front - length + 1 wraps around to a place on the track. */
    static void promise2_lastPlaceWrapsAround() {
        Sentence s = new Sentence("Promise 2", "length not 1 .. 40, or front or its last place not on the track");
        s.due(Sentence.EMPTY, "enter(least, greatest)", Sentence.ARGUMENT);
        s.due(Sentence.EMPTY, "enter(greatest, least)", Sentence.ARGUMENT);
        s.due(Sentence.EMPTY, "enter(greatest, greatest)", Sentence.ARGUMENT);
        s.due(Sentence.EMPTY, "enter(least, least)", Sentence.ARGUMENT);
        s.due(Sentence.EMPTY, "enter(greatest, 2147483598)", Sentence.ARGUMENT);
        s.due(Sentence.EMPTY, "enter(-2147483600, 2147483640)", Sentence.ARGUMENT);
        s.due(Sentence.EMPTY, "enter(119, least)", Sentence.ARGUMENT);
        s.due(Sentence.EMPTY, "enter(0, greatest)", Sentence.ARGUMENT);
    }

    static void promise2_8Came() {
        Sentence s = new Sentence("Promise 2", "IllegalStateException: 8 came");
        String seven = "enter(5, 1) enter(15, 1) enter(25, 1) enter(35, 1) enter(45, 1) enter(55, 1) enter(65, 1) ";
        s.due(seven, "enter(119, 40)", 7);
        s.due(seven + "enter(75, 1)", "enter(119, 1)", Sentence.STATE);
        s.due(seven + "enter(75, 4) tick(6)", "enter(119, 1)", Sentence.STATE);
        s.due(Sentence.FULL, "enter(50, 1)", Sentence.STATE);
        s.due(Sentence.EIGHT_CAME, "enter(75, 1)", Sentence.STATE);
        String sixWagons = "enter(39, 40) " + "lose(0, 1) ".repeat(6);
        s.due(sixWagons, "enter(119, 1)", 7);
        s.due(sixWagons + "lose(0, 1)", "enter(119, 1)", Sentence.STATE);
        s.due(sixWagons + "lose(0, 1) clear(7)", "enter(119, 1)", Sentence.STATE);
        s.due(sixWagons + "clear(1) clear(2) enter(119, 1)", "enter(100, 1)", Sentence.STATE);
    }

    static void promise2_aVehicleStandsThere() {
        Sentence s = new Sentence("Promise 2", "or a vehicle stands on one of the places");
        s.due(WAGON_ON_14_TO_16, "vehicle(1, 0) vehicle(1, 1) vehicle(0, 0) vehicle(0, 1)", "16 3 28 9");
        s.dueOfEach(WAGON_ON_14_TO_16, "enter(#, 1)", "2", "10", "13", "17", "19");
        s.dueOfEach(WAGON_ON_14_TO_16, "enter(#, 1)", Sentence.STATE, "14", "15", "16");
        s.due(WAGON_ON_14_TO_16, "enter(13, 14)", 2);
        s.due(WAGON_ON_14_TO_16, "enter(14, 15)", Sentence.STATE);
        s.due(WAGON_ON_14_TO_16, "enter(19, 3)", 2);
        s.due(WAGON_ON_14_TO_16, "enter(19, 4)", Sentence.STATE);
        s.due(WAGON_ON_14_TO_16, "enter(19, 20)", Sentence.STATE);
        s.due(WAGON_ON_14_TO_16 + "clear(1)", "enter(19, 20)", 2);
        s.due(WAGON_ON_14_TO_16 + "clear(1)", "enter(16, 3)", 2);
    }

    static void promise2_aTrainClaimsASectionThere() {
        Sentence s = new Sentence("Promise 2", "or a train CLAIMS a virtual section on which it would stand");
        String on44To45 = "enter(45, 2) ";
        s.dueOfEach(on44To45, "enter(#, 1)", "1", "0", "39", "50", "119");
        s.dueOfEach(on44To45, "enter(#, 1)", Sentence.STATE, "40", "43", "44", "45", "46", "49");
        s.due(on44To45, "enter(39, 40)", 1);
        s.due(on44To45, "enter(40, 40)", Sentence.STATE);
        s.due(on44To45, "enter(59, 10)", 1);
        s.due(on44To45, "enter(59, 11)", Sentence.STATE);
        s.due(on44To45, "enter(60, 40)", Sentence.STATE);
        s.dueOfEach(on44To45 + "authorise(0)", "enter(#, 1)", Sentence.STATE, "40", "49", "50", "110", "119");
        s.due(on44To45 + "authorise(0)", "enter(39, 40)", 1);
        s.due(on44To45 + "authorise(0) relent(0)", "enter(50, 1)", 1);
        s.dueOfEach(Sentence.MIXED, "enter(#, 1)", Sentence.STATE, "20", "59", "90", "109");
        s.dueOfEach(Sentence.MIXED, "enter(#, 1)", "4", "15", "60", "89", "110");
    }

    static void promise2_argumentsAreTestedFirst() {
        Sentence s = new Sentence("Promise 2", "length not 1 .. 40, or front or its last place not on the track."
            + " IllegalStateException: 8 came");
        s.dueOfEach(Sentence.FULL, "enter(50, #)", Sentence.ARGUMENT, "least", "0", "41", "greatest");
        s.dueOfEach(Sentence.FULL, "enter(#, 1)", Sentence.ARGUMENT, "least", "-1", "120", "greatest");
        s.dueOfEach(Sentence.EIGHT_CAME, "enter(75, #)", Sentence.ARGUMENT, "least", "0", "41", "greatest");
        s.dueOfEach(Sentence.EIGHT_CAME, "enter(#, 1)", Sentence.ARGUMENT, "least", "-1", "120", "greatest");
        s.due(Sentence.FULL, "enter(38, 40)", Sentence.ARGUMENT);
        s.due(Sentence.FULL, "enter(39, 40)", Sentence.STATE);
        s.due(WAGON_ON_14_TO_16, "enter(15, 17)", Sentence.ARGUMENT);
        s.due(WAGON_ON_14_TO_16, "enter(15, 16)", Sentence.STATE);
        s.due("enter(5, 2)", "enter(5, 7)", Sentence.ARGUMENT);
        s.due("enter(5, 2)", "enter(5, 0)", Sentence.ARGUMENT);
        s.due("enter(5, 2)", "enter(5, 6)", Sentence.STATE);
    }
}
