/** The bounds that the document's terms name, but for those of a tick: each sentence by a test of its own. */
public final class TermsBoundsTest {
    private static final String OVER = "authorise(0) drive(0, 9) ";

    private TermsBoundsTest() {
    }

    public static void main(String[] args) {
        Due.runAll(TermsBoundsTest.class);
        Due.end();
    }

    static void terms_atMost512Calls() {
        Sentence s = new Sentence("What it is", "An object is used for at most 512 calls after it has been made");
        String calls511 = "enter(5, 2) silence(0, true) " + "tick(6) ".repeat(509);
        s.due(calls511, "vehicle(0, 3)", 3054);
        s.due(calls511, "count(7)", 3054);
        s.due(calls511, "tick(6)", 11);
        s.due("enter(5, 2) " + "tick(6) ".repeat(510), "vehicle(0, 3)", 0);
        s.due(Sentence.FULL + "tick(6) ".repeat(503), "tick(6)", 0);
    }

    static void terms_placesFrom0To119() {
        Sentence s = new Sentence("Terms", "THE TRACK has places 0 .. 119");
        s.due(Sentence.EMPTY, "enter(-1, 1)", Sentence.ARGUMENT);
        s.due(Sentence.EMPTY, "enter(0, 1)", 0);
        s.due(Sentence.EMPTY, "enter(119, 1)", 0);
        s.due(Sentence.EMPTY, "enter(120, 1)", Sentence.ARGUMENT);
        s.due("enter(110, 1) " + OVER + "tick(1)", "vehicle(0, 0)", 119);
        s.due("enter(111, 1) " + OVER + "tick(6)", "vehicle(0, 0)", 119);
        s.due("enter(119, 1) " + OVER + "tick(1)", "vehicle(0, 0)", 119);
        s.dueStates("enter(39, 40) enter(79, 40) enter(119, 40)", "111111111111");
    }

    static void terms_virtualSectionsOfTenPlaces() {
        Sentence s = new Sentence("Terms", "VIRTUAL SECTIONS 0 .. 11 of ten places each (section v from 10 v on)");
        for (int v = 0; v < 12; v++) {
            s.dueStates("enter(" + 10 * v + ", 1)", occupied(v, v));
            s.dueStates("enter(" + (10 * v + 9) + ", 1)", occupied(v, v));
            s.dueStates("enter(" + (10 * v + 9) + ", 10)", occupied(v, v));
            if (v > 0) {
                s.dueStates("enter(" + 10 * v + ", 2)", occupied(v - 1, v));
                s.dueStates("enter(" + (10 * v + 9) + ", 11)", occupied(v - 1, v));
            }
        }
    }

    private static String occupied(int first, int last) {
        return "0".repeat(first) + "1".repeat(last - first + 1) + "0".repeat(11 - last);
    }

    static void terms_detectedSectionsOfThreeVirtualOnes() {
        Sentence s = new Sentence("Terms", "in DETECTED SECTIONS 0 .. 3 of three virtual ones each");
        for (int d = 0; d < 4; d++) {
            for (int other = 0; other < 4; other++) {
                s.due("enter(" + 30 * d + ", 1)", "detected(" + other + ")", other == d ? 1 : 0);
                s.due("enter(" + (30 * d + 29) + ", 30)", "detected(" + other + ")", other == d ? 1 : 0);
                s.due("enter(" + (30 * d + 29) + ", 1)", "detected(" + other + ")", other == d ? 1 : 0);
            }
        }
        for (int d = 1; d < 4; d++) {
            s.due("enter(" + 30 * d + ", 2)", "detected(" + (d - 1) + ") detected(" + d + ")", "1 1");
            s.due("enter(" + (30 * d + 29) + ", 31)", "detected(" + (d - 1) + ") detected(" + d + ")", "1 1");
        }
    }

    static void terms_vehiclesAreNumberedAtMost8() {
        Sentence s = new Sentence("Terms", "VEHICLES are numbered 0, 1, .. as they come, at most 8");
        String trains = "";
        for (int number = 0; number < 8; number++) {
            s.due(trains, "enter(" + 10 * number + ", 1)", number);
            trains += "enter(" + 10 * number + ", 1) ";
        }
        s.due(trains, "enter(80, 1)", Sentence.STATE);
        String wagons = "enter(39, 40) ";
        for (int number = 1; number < 8; number++) {
            s.due(wagons, "lose(0, 1)", number);
            wagons += "lose(0, 1) ";
        }
        s.due(wagons, "lose(0, 1)", Sentence.STATE);
        s.due(wagons, "enter(80, 1)", Sentence.STATE);
        s.due(wagons + "clear(7) clear(1)", "enter(80, 1)", Sentence.STATE);
        s.due(wagons + "clear(7) clear(1)", "lose(0, 1)", Sentence.STATE);
        s.due("enter(39, 40) lose(0, 1) clear(1)", "lose(0, 1)", 2);
        s.due("enter(39, 40) lose(0, 1) clear(1)", "enter(119, 1)", 2);
    }

    static void terms_standsOnLengthPlaces() {
        Sentence s = new Sentence("Terms", "A vehicle stands on LENGTH places, from its FRONT backward.");
        s.due("enter(30, 1)", "detected(0) detected(1)", "0 1");
        s.due("enter(30, 2)", "detected(0) detected(1)", "1 1");
        s.due("enter(69, 40)", "detected(0) detected(1) detected(2) detected(3)", "0 1 1 0");
        s.due("enter(68, 40)", "detected(0) detected(1) detected(2) detected(3)", "1 1 1 0");
        s.due("enter(99, 40)", "detected(0) detected(1) detected(2) detected(3)", "0 0 1 1");
        s.due("enter(89, 40)", "detected(0) detected(1) detected(2) detected(3)", "0 1 1 0");
        s.due("enter(69, 40) lose(0, 10)", "vehicle(1, 0) vehicle(1, 1)", "39 10");
        s.due("enter(69, 40) lose(0, 10)", "vehicle(0, 0) vehicle(0, 1)", "69 30");
    }

    static void terms_detectedOccupied() {
        Sentence s = new Sentence("Terms", "A detected section is OCCUPIED if a vehicle stands on a place of it.");
        String wagonOn29 = "enter(30, 2) lose(0, 1) " + OVER + "tick(1) ";
        s.due(wagonOn29, "detected(0) detected(1)", "1 1");
        s.due(wagonOn29 + "clear(1)", "detected(0) detected(1)", "0 1");
        String wagonOn30 = "enter(31, 2) lose(0, 1) " + OVER + "tick(6) ";
        s.due(wagonOn30, "detected(0) detected(1) detected(2)", "0 1 1");
        s.due(wagonOn30 + "clear(1)", "detected(0) detected(1) detected(2)", "0 0 1");
        s.due("enter(5, 1) silence(0, true) tick(6)", "detected(0)", 1);
        s.due("enter(29, 1) silence(0, true) drive(0, 9) tick(6)", "detected(0) detected(1)", "1 0");
        s.due("enter(29, 1) " + OVER + "silence(0, true) tick(1)", "detected(0) detected(1)", "0 1");
    }

    static void terms_states() {
        Sentence s = new Sentence("Terms", "A virtual section has a STATE: 0 FREE (at first), 1 OCCUPIED, 2 AMBIGUOUS, 3 UNKNOWN.");
        s.dueStates(Sentence.EMPTY, "000000000000");
        s.dueStates(Sentence.FULL, "111111111111");
        s.dueStates("enter(25, 10) enter(119, 1) lose(0, 4) tick(1)", "032000000001");
    }

    static void terms_speedFrom0To9() {
        Sentence s = new Sentence("Terms", "A TRAIN has a SPEED 0 .. 9");
        s.due("enter(5, 1)", "drive(0, 0)", 0);
        s.due("enter(5, 1)", "drive(0, -1)", Sentence.ARGUMENT);
        s.due("enter(5, 1) drive(0, 9)", "drive(0, 9)", 9);
        s.due("enter(5, 1)", "drive(0, 10)", Sentence.ARGUMENT);
    }

    static void terms_silentOrNotAtFirst() {
        Sentence s = new Sentence("Terms", "it is SILENT or not (at first)");
        s.due("enter(5, 1)", "silence(0, false)", 0);
        s.due("enter(5, 1)", "silence(0, true)", 1);
        s.due(Sentence.FULL, "silence(7, false)", 0);
    }

    static void terms_reportOfTheLastTimeWhenNotSilent() {
        Sentence s = new Sentence("Terms", "its REPORT is the front, the length and whether it was WHOLE, of the last time when it"
            + " was not silent, and the AGE of that, in ticks");
        String silent = "enter(25, 10) silence(0, true) lose(0, 6) ";
        s.due(silent + "tick(1)", "vehicle(0, 3) vehicle(0, 4) vehicle(0, 5)", "1 25 0");
        s.dueStates(silent + "tick(1)", "011000000000");
        s.dueStates(silent + "tick(5)", "011000000000");
        s.due(silent + "tick(6)", "vehicle(0, 3)", 6);
        s.due(silent + "tick(6) silence(0, false)", "vehicle(0, 3)", 6);
        s.due(silent + "tick(6) silence(0, false) tick(1)", "vehicle(0, 3)", 0);
        String going = "enter(25, 10) authorise(0) silence(0, true) drive(0, 4) tick(2) ";
        s.due(going, "vehicle(0, 0) vehicle(0, 3) vehicle(0, 4)", "33 2 25");
        s.due(going + "silence(0, false)", "vehicle(0, 0) vehicle(0, 3) vehicle(0, 4)", "33 2 25");
        s.due(going + "silence(0, false) tick(1)", "vehicle(0, 0) vehicle(0, 3) vehicle(0, 4)", "37 0 37");
    }

    static void terms_wholeUntilItLosesWagons() {
        Sentence s = new Sentence("Terms", "It is WHOLE until it loses wagons, and again when it says so.");
        s.due("enter(25, 10) tick(6)", "vehicle(0, 5)", 1);
        s.due("enter(25, 10) lose(0, 1)", "vehicle(0, 5)", 0);
        s.due("enter(25, 10) lose(0, 1) clear(1) tick(6)", "vehicle(0, 5)", 0);
        s.due("enter(25, 10) lose(0, 1) tick(1) confirm(0)", "vehicle(0, 5)", 1);
        s.due("enter(25, 10) lose(0, 1) tick(1) confirm(0) lose(0, 1)", "vehicle(0, 5)", 0);
    }

    static void terms_endIsTheLastPlace() {
        Sentence s = new Sentence("Terms", "It has an END, the last place that its front may come to.");
        String to19 = "enter(5, 1) enter(25, 1) authorise(0) drive(0, 7) ";
        s.due(to19, "vehicle(0, 2)", 19);
        s.due(to19 + "tick(1)", "vehicle(0, 0)", 12);
        s.due(to19 + "tick(2)", "vehicle(0, 0)", 19);
        s.due(to19 + "tick(3)", "vehicle(0, 0)", 19);
    }

    static void terms_claimsFromTheReportToTheEnd() {
        Sentence s = new Sentence("Terms", "What it CLAIMS are the virtual sections from that of the last place of its report on"
            + " up to that of its END.");
        String on36To45 = "enter(45, 10) ";
        dueClaims(s, on36To45, 30, 49);
        dueClaims(s, on36To45 + "enter(75, 1) authorise(0) ", 30, 69, "enter(80, 1)");
        dueClaims(s, on36To45 + "enter(75, 1) authorise(0) relent(0) ", 30, 49);
        dueClaims(s, on36To45 + "lose(0, 6) ", 30, 49);
        dueClaims(s, on36To45 + "lose(0, 6) clear(1) tick(1) ", 40, 49);
        String silentlyGone = on36To45 + "authorise(0) silence(0, true) drive(0, 9) tick(6) ";
        dueClaims(s, silentlyGone, 30, 119);
        dueClaims(s, silentlyGone + "silence(0, false) relent(0) ", 30, 99);
        dueClaims(s, silentlyGone + "silence(0, false) relent(0) tick(1) ", 90, 99);
    }

    private static void dueClaims(Sentence s, String start, int first, int last) {
        dueClaims(s, start, first, last, last < 119 ? "enter(" + (last + 1) + ", 1)" : "");
    }

    /** The place just below and the one behind the claims can be entered, and none at their edges. */
    private static void dueClaims(Sentence s, String start, int first, int last, String behind) {
        int next = Run.after(start).make("count(0)").get(0).charAt(0) - '0';
        s.due(start, "enter(" + (first - 1) + ", 1)", next);
        s.due(start, "enter(" + first + ", 1)", Sentence.STATE);
        s.due(start, "enter(" + (last - 9) + ", 1)", Sentence.STATE);
        s.due(start, "enter(" + last + ", 1)", Sentence.STATE);
        if (!behind.isEmpty()) {
            s.due(start, behind, next);
        }
    }

    static void terms_locatedUpToAge5() {
        Sentence s = new Sentence("Terms", "A train is LOCATED on the virtual sections on which it stood by its report, if the AGE"
            + " is at most 5; otherwise it is MUTE.");
        String silent = "enter(15, 3) silence(0, true) ";
        s.dueStates(silent + "tick(4)", "010000000000");
        s.dueStates(silent + "tick(5)", "010000000000");
        s.dueStates(silent + "tick(6)", "030000000000");
        s.dueStates(silent + "tick(6) tick(1)", "030000000000");
        s.due(silent + "tick(5) silence(0, false)", "authorise(0)", 119);
        s.due(silent + "tick(6) silence(0, false)", "authorise(0)", Sentence.STATE);
        s.dueStates("enter(20, 11) silence(0, true) tick(5)", "011000000000");
        s.dueStates("enter(19, 10) silence(0, true) tick(5)", "010000000000");
    }
}
