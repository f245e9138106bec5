/** The bounds that the promises 3 to 8 name, of what is told to trains: each sentence by a test of its own. */
public final class TrainBoundsTest {
    /** Train 0 on 3 .. 5, END 119, silent for that many ticks and then not. */
    private static final String SILENT_5_TICKS = "enter(5, 3) authorise(0) silence(0, true) tick(5) silence(0, false) ";
    private static final String SILENT_6_TICKS = "enter(5, 3) authorise(0) silence(0, true) tick(6) silence(0, false) ";
    /** Train 0 on 34, END 34, in section 3 that is UNKNOWN; by its report it is on 25. */
    private static final String AWAY_FROM_ITS_REPORT =
        "enter(25, 1) authorise(0) drive(0, 9) silence(0, true) tick(1) silence(0, false) relent(0) ";

    private TrainBoundsTest() {
    }

    public static void main(String[] args) {
        Due.runAll(TrainBoundsTest.class);
        Due.end();
    }

    static void promise3_setsTheSpeed() {
        Sentence s = new Sentence("Promise 3", "Sets the speed of a train; answers the one before.");
        s.due("enter(5, 1)", "drive(0, 0) drive(0, 9) drive(0, 9) drive(0, 0) drive(0, 1)", "0 0 9 9 0");
        s.due("enter(5, 1) enter(15, 1) drive(0, 9)", "drive(1, 4) drive(0, 0) drive(1, 0)", "0 9 4");
        s.due(Sentence.FULL + "drive(7, 9)", "drive(0, 1) drive(7, 1)", "0 9");
        s.due(Sentence.MIXED, "drive(2, 0) drive(0, 0)", "5 2");
        s.due("enter(5, 1) authorise(0) drive(0, 0) tick(1)", "vehicle(0, 0)", 5);
        s.due("enter(5, 1) authorise(0) drive(0, 1) tick(1)", "vehicle(0, 0)", 6);
        s.due("enter(5, 1) authorise(0) drive(0, 9) tick(1)", "vehicle(0, 0)", 14);
    }

    static void promise3_noSuchTrain() {
        Sentence s = new Sentence("Promise 3", "NoSuchElementException: no such train.");
        s.dueNoSuchTrain("drive(#, 0)");
        s.dueNoSuchTrain("drive(#, 9)");
    }

    static void promise3_not0To9() {
        Sentence s = new Sentence("Promise 3", "IllegalArgumentException: not 0 .. 9.");
        s.dueOfEach("enter(5, 1)", "drive(0, #)", "0", "0", "1", "8", "9");
        s.dueOfEach("enter(5, 1) drive(0, 3)", "drive(0, #)", Sentence.ARGUMENT, "least", "-1", "10", "greatest");
        s.dueOfEach(Sentence.MIXED, "drive(2, #)", Sentence.ARGUMENT, "least", "-1", "10", "greatest");
        s.dueOfEach(Sentence.FULL, "drive(7, #)", Sentence.ARGUMENT, "least", "-1", "10", "greatest");
    }

    static void promise3_theTrainIsTestedFirst() {
        Sentence s = new Sentence("Promise 3", "no such train. IllegalArgumentException: not 0 .. 9.");
        s.dueNoSuchTrain("drive(#, -1)");
        s.dueNoSuchTrain("drive(#, 10)");
        s.dueNoSuchTrain("drive(#, least)");
        s.dueNoSuchTrain("drive(#, greatest)");
    }

    static void promise4_1IfThatChangesSomething() {
        Sentence s = new Sentence("Promise 4", "A train becomes silent, or not: 1 if that changes something, else 0.");
        s.due("enter(5, 1)", "silence(0, false) silence(0, true) silence(0, true) silence(0, false) silence(0, false)",
            "0 1 0 1 0");
        s.due("enter(5, 1) enter(15, 1) silence(0, true)", "silence(1, true) silence(0, true)", "1 0");
        s.due(Sentence.FULL + "silence(7, true)", "silence(7, true) silence(0, true)", "0 1");
        s.due("enter(5, 1) silence(0, true) tick(6)", "silence(0, true) silence(0, false)", "0 1");
    }

    static void promise4_noSuchTrain() {
        Sentence s = new Sentence("Promise 4", "NoSuchElementException: no such train.");
        s.dueNoSuchTrain("silence(#, true)");
        s.dueNoSuchTrain("silence(#, false)");
    }

    static void promise5_noOtherTrainClaims() {
        Sentence s = new Sentence("Promise 5", "if no other train CLAIMS the virtual section of its END");
        // Its own claim on the section of its END does not count.
        s.due("enter(5, 1)", "authorise(0)", 119);
        s.due("enter(5, 1) authorise(0)", "authorise(0)", 119);
        s.due("enter(5, 1) enter(10, 1) enter(20, 1)", "authorise(1) authorise(0) authorise(1)", "19 9 19");
    }

    static void promise5_theSectionOfItsEndIsFree() {
        Sentence s = new Sentence("Promise 5", "and that is FREE or the front by its report is in it");
        String endInAFreeOne = "enter(5, 1) enter(35, 1) authorise(0) ";
        s.due(endInAFreeOne, "vehicle(0, 2) state(2)", "29 0");
        s.due(endInAFreeOne + "authorise(1) drive(1, 9) tick(1)", "authorise(0)", 39);
        String endInItsOwn = "enter(5, 1) ";
        s.due(endInItsOwn, "state(0) authorise(0)", "1 119");
        s.due(AWAY_FROM_ITS_REPORT, "vehicle(0, 2) vehicle(0, 4) state(3)", "34 25 3");
        s.due(AWAY_FROM_ITS_REPORT, "authorise(0)", 34);
        s.due(AWAY_FROM_ITS_REPORT + "tick(1)", "vehicle(0, 4) state(3) authorise(0)", "34 2 39");
    }

    static void promise5_theLastPlaceOfThatSection() {
        Sentence s = new Sentence("Promise 5", "its END becomes the last place of that section");
        s.due("enter(10, 1) enter(20, 1)", "authorise(0)", 19);
        s.due("enter(18, 1) enter(20, 1)", "authorise(0)", 19);
        s.due("enter(19, 1) enter(20, 1)", "authorise(0)", 19);
        s.due("enter(0, 1) enter(10, 1)", "authorise(0)", 9);
        s.due("enter(110, 1)", "authorise(0)", 119);
        s.due("enter(119, 1)", "authorise(0)", 119);
    }

    static void promise5_theLastOneOfThoseInFront() {
        Sentence s = new Sentence("Promise 5", "or of the last one of those in front of it that, one behind the other, are FREE and"
            + " that no other train CLAIMS");
        s.due("enter(5, 1) enter(25, 1)", "authorise(0)", 19);
        s.due("enter(5, 1) enter(115, 1)", "authorise(0)", 109);
        s.due("enter(5, 1) enter(110, 2)", "authorise(0)", 99);
        s.due("enter(5, 1) enter(105, 1)", "authorise(0)", 99);
        s.due("enter(100, 1)", "authorise(0)", 119);
        s.due(Sentence.FULL, "authorise(0) authorise(6) authorise(7)", "9 99 119");
    }

    /** Sections 3 to 5 and 9 are UNKNOWN, and those between them FREE. */
    static void promise5_notBeyondOneThatIsNotFree() {
        Sentence s = new Sentence("Promise 5", "one behind the other, are FREE");
        String unknownAhead = "enter(55, 10) lose(0, 4) authorise(0) drive(0, 9) tick(6) relent(0) enter(5, 1) ";
        s.dueStates(unknownAhead, "100333000320");
        s.due(unknownAhead, "authorise(2)", 29);
        s.due(unknownAhead + "clear(1) tick(1)", "authorise(2)", 89);
    }

    /** By places section 4 and more are behind train 1 in front, by its report they are not. */
    static void promise5_notIntoWhatAnotherClaims() {
        Sentence s = new Sentence("Promise 5", "that no other train CLAIMS");
        String silentlyGone = "enter(5, 1) enter(45, 1) authorise(1) silence(1, true) drive(1, 9) tick(5) ";
        s.due(silentlyGone, "vehicle(1, 0) authorise(0)", "90 39");
        s.due(silentlyGone + "tick(1)", "vehicle(1, 0) authorise(0)", "99 39");
        s.due(silentlyGone + "silence(1, false)", "authorise(0)", 39);
        s.due(silentlyGone + "silence(1, false) tick(1)", "authorise(0)", 89);
    }

    static void promise5_answersTheEnd() {
        Sentence s = new Sentence("Promise 5", "Otherwise it stays. Answers the END.");
        s.due(AWAY_FROM_ITS_REPORT, "authorise(0) vehicle(0, 2) authorise(0)", "34 34 34");
        s.due("enter(5, 1) enter(25, 1)", "authorise(0) vehicle(0, 2)", "19 19");
        s.due("enter(119, 40)", "authorise(0) vehicle(0, 2)", "119 119");
    }

    static void promise5_noSuchTrain() {
        Sentence s = new Sentence("Promise 5", "NoSuchElementException: no such train.");
        s.dueNoSuchTrain("authorise(#)");
    }

    static void promise5_muteOrSilent() {
        Sentence s = new Sentence("Promise 5", "IllegalStateException: it is MUTE, or silent.");
        s.due(SILENT_5_TICKS, "authorise(0)", 119);
        s.due(SILENT_6_TICKS, "authorise(0)", Sentence.STATE);
        s.due(SILENT_6_TICKS + "tick(1)", "authorise(0)", 119);
        s.due("enter(5, 3) silence(0, true)", "authorise(0)", Sentence.STATE);
        s.due("enter(5, 3) silence(0, true) tick(5)", "authorise(0)", Sentence.STATE);
        s.due("enter(5, 3) silence(0, true) tick(6)", "authorise(0)", Sentence.STATE);
        s.due("enter(5, 3) silence(0, true) silence(0, false)", "authorise(0)", 119);
        s.due(Sentence.FULL + "silence(7, true)", "authorise(7)", Sentence.STATE);
        s.due(Sentence.MIXED, "authorise(2)", Sentence.STATE);
        s.due(Sentence.MIXED + "silence(0, true)", "authorise(0)", Sentence.STATE);
    }

    static void promise6_itsEndIsItsFront() {
        Sentence s = new Sentence("Promise 6", "its END is its front. Answers how many places fewer.");
        s.due("enter(5, 3)", "relent(0) vehicle(0, 2)", "0 5");
        s.due("enter(0, 1) authorise(0)", "relent(0) vehicle(0, 2) relent(0)", "119 0 0");
        s.due("enter(118, 1) authorise(0)", "relent(0) vehicle(0, 2)", "1 118");
        s.due("enter(119, 1) authorise(0)", "relent(0) vehicle(0, 2)", "0 119");
        s.due("enter(5, 3) authorise(0) drive(0, 9) tick(1)", "relent(0) vehicle(0, 2)", "105 14");
        s.due("enter(5, 3) authorise(0) relent(0) drive(0, 9) tick(6)", "vehicle(0, 0)", 5);
        s.due(Sentence.FULL, "relent(0) relent(7)", "0 0");
    }

    /** The front where it is, not the one that it reported. */
    static void promise6_thePlaceOfItsFront() {
        Sentence s = new Sentence("Promise 6", "beyond the place of its front");
        String away = "enter(25, 1) authorise(0) drive(0, 9) silence(0, true) tick(1) silence(0, false) ";
        s.due(away, "relent(0) vehicle(0, 2) vehicle(0, 4)", "85 34 25");
    }

    static void promise6_noSuchTrain() {
        Sentence s = new Sentence("Promise 6", "NoSuchElementException: no such train.");
        s.dueNoSuchTrain("relent(#)");
    }

    static void promise6_silent() {
        Sentence s = new Sentence("Promise 6", "IllegalStateException: it is silent.");
        s.due("enter(5, 3) authorise(0) silence(0, true)", "relent(0)", Sentence.STATE);
        s.due("enter(5, 3) authorise(0) silence(0, true) tick(6)", "relent(0)", Sentence.STATE);
        s.due("enter(5, 3) silence(0, true)", "relent(0)", Sentence.STATE);
        s.due("enter(5, 3) authorise(0) silence(0, true) silence(0, false)", "relent(0)", 114);
        s.due(Sentence.MIXED + "silence(0, true)", "relent(0)", Sentence.STATE);
        s.due(Sentence.MIXED, "relent(0)", 32);
        s.due(SILENT_5_TICKS, "relent(0)", 114);
        // A MUTE train that is not silent may.
        s.due(SILENT_6_TICKS, "relent(0)", 114);
        s.due(Sentence.MIXED, "relent(2)", Sentence.STATE);
    }

    static void promise7_theLastPlacesBecomeAWagon() {
        Sentence s = new Sentence("Promise 7", "The last n places of a train become a wagon (speed 0), the train that much shorter,"
            + " and it is not whole.");
        s.due("enter(39, 40) lose(0, 1)", "vehicle(1, 0) vehicle(1, 1) vehicle(0, 0) vehicle(0, 1) vehicle(0, 5)", "0 1 39 39 0");
        s.due("enter(39, 40) lose(0, 39)", "vehicle(1, 0) vehicle(1, 1) vehicle(0, 0) vehicle(0, 1) vehicle(0, 5)", "38 39 39 1 0");
        s.due("enter(1, 2) lose(0, 1)", "vehicle(1, 0) vehicle(1, 1) vehicle(0, 0) vehicle(0, 1)", "0 1 1 1");
        s.due("enter(119, 40) lose(0, 20) lose(0, 19)", "vehicle(1, 0) vehicle(2, 0) vehicle(2, 1) vehicle(0, 1)", "99 118 19 1");
        s.due("enter(25, 10) lose(0, 4) authorise(0) drive(0, 9) tick(6)", "vehicle(1, 0) vehicle(0, 0)", "19 79");
        s.due("enter(25, 10) drive(0, 9) lose(0, 4)", "drive(0, 9)", 9);
        // Neither the report nor a state changes before the next tick, and a silent train loses too.
        s.due("enter(25, 10) lose(0, 6)", "vehicle(0, 3) vehicle(0, 4) state(1) state(2)", "0 25 1 1");
        s.due("enter(25, 10) silence(0, true) tick(6)", "lose(0, 9)", 1);
    }

    static void promise7_answersTheWagonsNumber() {
        Sentence s = new Sentence("Promise 7", "Answers the wagon's number.");
        s.due("enter(39, 40)", "lose(0, 1) lose(0, 1) lose(0, 1) lose(0, 1) lose(0, 1) lose(0, 1) lose(0, 1)", "1 2 3 4 5 6 7");
        s.due(Sentence.MIXED, "lose(0, 1) lose(2, 1)", "4 5");
    }

    static void promise7_noSuchTrain() {
        Sentence s = new Sentence("Promise 7", "NoSuchElementException: no such train.");
        s.dueNoSuchTrain("lose(#, 1)");
    }

    static void promise7_nNot1ToItsLengthLess1() {
        Sentence s = new Sentence("Promise 7", "IllegalArgumentException: n not 1 .. its length less 1.");
        s.dueOfEach("enter(50, 20)", "lose(0, #)", "1", "1", "2", "18", "19");
        s.dueOfEach("enter(50, 20)", "lose(0, #)", Sentence.ARGUMENT, "least", "-1", "0", "20", "21", "greatest");
        s.dueOfEach("enter(50, 1)", "lose(0, #)", Sentence.ARGUMENT, "least", "-1", "0", "1", "2", "greatest");
        s.dueOfEach("enter(50, 2)", "lose(0, #)", Sentence.ARGUMENT, "least", "-1", "0", "2", "greatest");
        s.due("enter(50, 2)", "lose(0, 1)", 1);
        s.due("enter(50, 40)", "lose(0, 39)", 1);
        s.due("enter(50, 40)", "lose(0, 40)", Sentence.ARGUMENT);
        // The length as it is then, not the one that it reported.
        s.due("enter(50, 20) lose(0, 5)", "lose(0, 14)", 2);
        s.due("enter(50, 20) lose(0, 5)", "lose(0, 15)", Sentence.ARGUMENT);
        s.due("enter(50, 20) lose(0, 19)", "lose(0, 1)", Sentence.ARGUMENT);
        s.dueOfEach(Sentence.MIXED, "lose(2, #)", Sentence.ARGUMENT, "least", "0", "15", "greatest");
        s.due(Sentence.MIXED, "lose(2, 14)", 4);
    }

    static void promise7_8VehiclesCame() {
        Sentence s = new Sentence("Promise 7", "IllegalStateException: 8 vehicles came.");
        String sixWagons = "enter(39, 40) " + "lose(0, 1) ".repeat(6);
        s.due(sixWagons, "lose(0, 33)", 7);
        s.due(sixWagons + "lose(0, 1)", "lose(0, 1)", Sentence.STATE);
        s.due(sixWagons + "lose(0, 1) clear(1) clear(7)", "lose(0, 1)", Sentence.STATE);
        s.due(sixWagons + "enter(119, 10)", "lose(7, 1)", Sentence.STATE);
        s.due(Sentence.FULL, "lose(0, 1)", Sentence.STATE);
        s.due(Sentence.FULL, "lose(7, 19)", Sentence.STATE);
        s.due(Sentence.EIGHT_CAME, "lose(0, 1)", Sentence.STATE);
    }

    static void promise7_theOrderOfTesting() {
        Sentence s = new Sentence("Promise 7", "no such train. IllegalArgumentException: n not 1 .. its length less 1."
            + " IllegalStateException: 8 vehicles came.");
        s.dueNoSuchTrain("lose(#, 0)");
        s.dueNoSuchTrain("lose(#, 40)");
        s.dueNoSuchTrain("lose(#, least)");
        s.dueNoSuchTrain("lose(#, greatest)");
        s.dueOfEach(Sentence.FULL, "lose(0, #)", Sentence.ARGUMENT, "least", "-1", "0", "10", "greatest");
        s.dueOfEach(Sentence.FULL, "lose(7, #)", Sentence.ARGUMENT, "least", "-1", "0", "20", "greatest");
        String eightWagons = "enter(39, 40) " + "lose(0, 1) ".repeat(7);
        s.dueOfEach(eightWagons, "lose(0, #)", Sentence.STATE, "1", "32");
        s.dueOfEach(eightWagons, "lose(0, #)", Sentence.ARGUMENT, "0", "33");
        s.dueOfEach(eightWagons, "lose(#, 1)", Sentence.NO_SUCH, "1", "7", "8");
    }

    static void promise8_saysThatItIsWhole() {
        Sentence s = new Sentence("Promise 8", "A train says that it is whole again: answers its length.");
        s.due("enter(39, 40) lose(0, 1) tick(1)", "confirm(0) vehicle(0, 5)", "39 1");
        s.due("enter(39, 40) lose(0, 39) tick(1)", "confirm(0) vehicle(0, 5)", "1 1");
        // The length as it is, not the one that it reported; and a silent train may say so.
        s.due("enter(39, 40) lose(0, 1) tick(1) lose(0, 4)", "confirm(0)", 35);
        s.due("enter(39, 40) lose(0, 1) tick(1) silence(0, true) tick(6)", "confirm(0)", 39);
        s.dueStates("enter(25, 3) lose(0, 1) tick(1) confirm(0)", "002000000000");
    }

    static void promise8_noSuchTrain() {
        Sentence s = new Sentence("Promise 8", "NoSuchElementException: no such train.");
        s.dueNoSuchTrain("confirm(#)");
    }

    static void promise8_itIsWhole() {
        Sentence s = new Sentence("Promise 8", "IllegalStateException: it is whole");
        s.due("enter(25, 10)", "confirm(0)", Sentence.STATE);
        s.due("enter(25, 10) tick(6)", "confirm(0)", Sentence.STATE);
        String lost = "enter(25, 10) lose(0, 4) tick(1) ";
        s.due(lost, "confirm(0)", 6);
        s.due(lost + "confirm(0)", "confirm(0)", Sentence.STATE);
        s.due(lost + "silence(0, true) confirm(0) tick(1)", "confirm(0)", Sentence.STATE);
        s.due(lost + "confirm(0) lose(0, 1)", "confirm(0)", 5);
        s.due(Sentence.MIXED + "confirm(2)", "confirm(2)", Sentence.STATE);
        s.due(Sentence.EIGHT_CAME, "confirm(2)", Sentence.STATE);
        s.due(Sentence.FULL, "confirm(7)", Sentence.STATE);
    }

    static void promise8_orWasByItsReport() {
        Sentence s = new Sentence("Promise 8", "or was by its report");
        s.due("enter(25, 10) lose(0, 4)", "confirm(0)", Sentence.STATE);
        s.due("enter(25, 10) lose(0, 4) silence(0, true) tick(6)", "confirm(0)", Sentence.STATE);
        s.due("enter(25, 10) silence(0, true) lose(0, 4) tick(6) silence(0, false)", "confirm(0)", Sentence.STATE);
        s.due("enter(25, 10) silence(0, true) lose(0, 4) tick(6) silence(0, false) tick(1)", "confirm(0)", 6);
        s.due("enter(25, 10) lose(0, 4) enter(119, 1)", "confirm(0)", Sentence.STATE);
        s.due("enter(25, 10) lose(0, 4) tick(1) confirm(0) tick(1) lose(0, 1)", "confirm(0)", Sentence.STATE);
        s.due(Sentence.MIXED, "confirm(0)", 6);
        s.due(Sentence.MIXED + "confirm(0) tick(1)", "confirm(0)", Sentence.STATE);
        s.due(Sentence.MIXED + "lose(2, 1) silence(2, false) tick(1) confirm(2) tick(1) lose(2, 1)", "confirm(2)", Sentence.STATE);
    }
}
