/** Each sentence of the document that names a boundary of loads and comb points: promises 3, 4, 20, 21. */
public final class TableEdgesTest {
    private static final Due DUE = new Due("TableEdgesTest");
    private static final int FULL = 10;

    public static void main(String[] args) {
        atMostTenLoads();
        loadPlaces();
        loadValues();
        noTwoLoadsAtOnePlace();
        loadRemoval();
        loadRemovedThatIsNotThere();
        previousLoad();
        loadErrorsInTheirOrder();
        loadNearestBelowOrAt();
        noLoadBelow();
        loadBesideAnother();
        loadAtRange();
        atMostTenCombPoints();
        combPlaces();
        combErrors();
        noTwoCombPointsAtOnePlace();
        combRemoval();
        combRemovedThatIsNotThere();
        previousError();
        combErrorsInTheirOrder();
        errorAtAPoint();
        errorBelowTheLowest();
        errorAboveTheHighest();
        errorWithoutPoints();
        errorOfOnePoint();
        errorRoundedDownFalling();
        errorRoundedDownRising();
        errorBetweenNeighboursOnly();
        errorBetweenTheFarthest();
        errorAtRange();
        DUE.end();
    }

    /** So many points at the places 0, 10, 20, .., with the values 0, 1, 2, .., and then some more lines. */
    private static String[] points(String call, int points, String... more) {
        String[] lines = new String[points + more.length];
        for (int i = 0; i < points; i++) {
            lines[i] = call + " " + 10 * i + " " + i;
        }
        System.arraycopy(more, 0, lines, points, more.length);
        return lines;
    }

    private static void atMostTenLoads() {
        DUE.sentence("There are at most 10 loads; CAPACITY_EXCEEDED if there would be 11 loads");
        DUE.run(points("setLoad", 8, "count 15 = 8", "setLoad 80 8 = -1", "count 15 = 9", "setLoad 90 9 = -1",
            "count 15 = 10", "setLoad 100 1 = FULL", "setLoad -5 1 = FULL", "setLoad 45 1 = FULL",
            "setLoad 45 0 = FULL", "count 15 = 10", "loadAt 100 = 9", "loadAt -5 = 0", "loadAt 45 = 4"));
        DUE.run(points("setLoad", FULL, "setLoad 0 7 = 0", "setLoad 90 8 = 9", "setLoad 50 6 = 5", "count 15 = 10",
            "loadAt 9 = 7", "loadAt 90 = 8", "loadAt 50 = 6", "loadAt 60 = 6", "loadAt 40 = 4"));
        DUE.run(points("setLoad", FULL, "setLoad 90 -1 = 9", "setLoad 95 1 = -1", "setLoad 90 1 = FULL",
            "setLoad 0 -1 = 0", "setLoad 90 1 = -1", "count 15 = 10"));
        DUE.refused(points("setLoad", FULL), "setLoad 5 1", "FULL");
    }

    private static void loadPlaces() {
        DUE.sentence("each begins at a place from -20000 to 20000");
        DUE.run("setLoad -20001 1 = INVALID", "setLoad 20001 1 = INVALID", "setLoad MIN 1 = INVALID",
            "setLoad MAX 1 = INVALID", "count 15 = 0", "setLoad -20000 1 = -1", "setLoad -19999 2 = -1",
            "setLoad 20000 3 = -1", "setLoad 19999 4 = -1", "loadAt -20000 = 1", "loadAt -19999 = 2",
            "loadAt 19998 = 2", "loadAt 19999 = 4", "loadAt 20000 = 3", "count 15 = 4");
        DUE.run("setLoad -20001 -1 = INVALID", "setLoad 20001 -1 = INVALID", "setLoad -20000 -1 = STATE",
            "setLoad 20000 -1 = STATE");
    }

    private static void loadValues() {
        DUE.sentence("load: 0 to 200, or -1 to remove the load that begins there");
        DUE.run("setLoad 5 -2 = INVALID", "setLoad 5 201 = INVALID", "setLoad 5 MIN = INVALID",
            "setLoad 5 MAX = INVALID", "count 15 = 0", "setLoad 5 0 = -1", "setLoad 5 1 = 0", "setLoad 5 199 = 1",
            "setLoad 5 200 = 199", "setLoad 5 201 = INVALID", "setLoad 5 -2 = INVALID", "loadAt 5 = 200",
            "setLoad 5 -1 = 200", "count 15 = 0");
    }

    private static void noTwoLoadsAtOnePlace() {
        DUE.sentence("no two at the same one");
        DUE.run("setLoad 5 1 = -1", "setLoad 5 2 = 1", "count 15 = 1", "loadAt 5 = 2", "setLoad 6 3 = -1",
            "setLoad 4 4 = -1", "count 15 = 3", "setLoad 5 -1 = 2", "count 15 = 2", "loadAt 5 = 4",
            "setLoad 5 -1 = STATE");
        DUE.run("setLoad 0 0 = -1", "setLoad 0 0 = 0", "count 15 = 1", "setLoad 0 -1 = 0", "count 15 = 0");
    }

    private static void loadRemoval() {
        DUE.sentence("-1 to remove the load that begins there");
        DUE.run(points("setLoad", FULL, "setLoad 0 -1 = 0", "count 15 = 9", "loadAt 9 = 0", "loadAt 10 = 1",
            "setLoad 90 -1 = 9", "loadAt 90 = 8", "loadAt 20000 = 8", "setLoad 40 -1 = 4", "loadAt 39 = 3",
            "loadAt 40 = 3", "loadAt 49 = 3", "loadAt 50 = 5", "count 15 = 7", "undo = 5", "loadAt 40 = 4"));
    }

    private static void loadRemovedThatIsNotThere() {
        DUE.sentence("ILLEGAL_STATE if a load is to be removed that there is not");
        DUE.run("setLoad 0 -1 = STATE", "setLoad 5 9 = -1", "setLoad 4 -1 = STATE", "setLoad 6 -1 = STATE",
            "setLoad -5 -1 = STATE", "loadAt 6 = 9", "count 15 = 1", "count 19 = 1", "setLoad 5 -1 = 9",
            "setLoad 5 -1 = STATE", "count 19 = 2");
        DUE.run(points("setLoad", FULL, "setLoad 5 -1 = STATE", "setLoad 100 -1 = STATE", "count 15 = 10"));
        DUE.refused(points("setLoad", FULL), "setLoad 45 -1", "STATE");
        DUE.refused(new String[0], "setLoad 0 -1", "STATE");
    }

    private static void previousLoad() {
        DUE.sentence("Returns the previous load that began there, or -1");
        DUE.run("setLoad 5 200 = -1", "setLoad 6 0 = -1", "setLoad 7 1 = -1", "setLoad 6 3 = 0", "setLoad 5 4 = 200",
            "setLoad 7 -1 = 1", "setLoad 7 2 = -1");
    }

    private static void loadErrorsInTheirOrder() {
        DUE.sentence("setLoad: INVALID_ARGUMENT, then ILLEGAL_STATE, then CAPACITY_EXCEEDED");
        DUE.run(points("setLoad", FULL, "setLoad 20001 1 = INVALID", "setLoad -20001 1 = INVALID",
            "setLoad 5 201 = INVALID", "setLoad 5 -2 = INVALID", "setLoad 20001 -1 = INVALID", "setLoad 5 -1 = STATE",
            "setLoad 5 1 = FULL", "setLoad 5 200 = FULL", "setLoad 20000 0 = FULL", "setLoad -20000 0 = FULL"));
    }

    private static void loadNearestBelowOrAt() {
        DUE.sentence("The load at a place is that of the load that begins nearest below or at it");
        DUE.run("setLoad 20 5", "setLoad -10 7", "setLoad 10 6", "loadAt -11 = 0", "loadAt -10 = 7", "loadAt -9 = 7",
            "loadAt 9 = 7", "loadAt 10 = 6", "loadAt 11 = 6", "loadAt 19 = 6", "loadAt 20 = 5", "loadAt 21 = 5",
            "loadAt 20000 = 5", "setLoad 20000 4", "loadAt 19999 = 5", "loadAt 20000 = 4");
    }

    private static void noLoadBelow() {
        DUE.sentence("0 if there is none");
        DUE.run("loadAt -20000 = 0", "loadAt 20000 = 0", "setLoad 20000 9", "loadAt 19999 = 0", "loadAt 20000 = 9",
            "loadAt -20000 = 0", "setLoad -19999 8", "loadAt -20000 = 0", "loadAt -19999 = 8", "setLoad -20000 7",
            "loadAt -20000 = 7");
    }

    private static void loadBesideAnother() {
        DUE.sentence("The load at a place .. nearest below or at it: the table's, far outside of the places, too");
        DUE.run("setLoad 20000 9", "setLoad 19999 8", "loadAt 19999 = 8", "loadAt 20000 = 9", "setNumber 0 16",
            "moveTo 19984 = 0", "count 13 = 0", "correct 40 = 19944", "moveTo 20000 = 0", "count 8 = 20032",
            "count 13 = 9");
        DUE.run("setLoad -20000 9", "setNumber 0 16", "moveTo -20000 = 0", "count 13 = 9", "correct -16 = -19984",
            "moveTo -20000 = 0", "count 8 = -20016", "count 13 = 0");
    }

    private static void loadAtRange() {
        DUE.sentence("loadAt: place -20000 to 20000; INVALID_ARGUMENT if place is out of range");
        DUE.run("setLoad -20000 3", "loadAt -20001 = INVALID", "loadAt -20000 = 3", "loadAt -19999 = 3",
            "loadAt 19999 = 3", "loadAt 20000 = 3", "loadAt 20001 = INVALID", "loadAt MIN = INVALID",
            "loadAt MAX = INVALID");
    }

    private static void atMostTenCombPoints() {
        DUE.sentence("There are at most 10 comb points; CAPACITY_EXCEEDED if there would be 11 comb points");
        DUE.run(points("setComb", 8, "count 16 = 8", "setComb 80 8 = 100", "count 16 = 9", "setComb 90 9 = 100",
            "count 16 = 10", "setComb 100 1 = FULL", "setComb -5 1 = FULL", "setComb 45 1 = FULL",
            "setComb 45 0 = FULL", "count 16 = 10", "errorAt 100 = 9", "errorAt -5 = 0", "errorAt 45 = 4"));
        DUE.run(points("setComb", FULL, "setComb 0 7 = 0", "setComb 90 8 = 9", "setComb 50 6 = 5", "count 16 = 10",
            "errorAt 0 = 7", "errorAt 90 = 8", "errorAt 50 = 6", "errorAt 60 = 6", "errorAt 40 = 4"));
        DUE.run(points("setComb", FULL, "setComb 90 100 = 9", "setComb 95 1 = 100", "setComb 90 1 = FULL",
            "setComb 0 100 = 0", "setComb 90 1 = 100", "count 16 = 10"));
        DUE.refused(points("setComb", FULL), "setComb 5 1", "FULL");
        DUE.run(points("setComb", FULL, "setLoad 0 1 = -1", "count 15 = 1", "count 16 = 10"));
    }

    private static void combPlaces() {
        DUE.sentence("comb points, each with a place from -20000 to 20000");
        DUE.run("setComb -20001 1 = INVALID", "setComb 20001 1 = INVALID", "setComb MIN 1 = INVALID",
            "setComb MAX 1 = INVALID", "count 16 = 0", "setComb -20000 1 = 100", "setComb -19999 2 = 100",
            "setComb 20000 3 = 100", "setComb 19999 4 = 100", "errorAt -20000 = 1", "errorAt -19999 = 2",
            "errorAt 19999 = 4", "errorAt 20000 = 3", "count 16 = 4");
        DUE.run("setComb -20001 100 = INVALID", "setComb 20001 100 = INVALID", "setComb -20000 100 = STATE",
            "setComb 20000 100 = STATE");
    }

    private static void combErrors() {
        DUE.sentence("error: -99 to 99, or 100 to remove the comb point");
        DUE.run("setComb 5 -100 = INVALID", "setComb 5 101 = INVALID", "setComb 5 MIN = INVALID",
            "setComb 5 MAX = INVALID", "count 16 = 0", "setComb 5 -99 = 100", "setComb 5 -98 = -99",
            "setComb 5 -1 = -98", "setComb 5 0 = -1", "setComb 5 98 = 0", "setComb 5 99 = 98", "errorAt 5 = 99",
            "setComb 5 -100 = INVALID", "setComb 5 101 = INVALID", "errorAt 5 = 99", "setComb 5 100 = 99",
            "count 16 = 0");
    }

    private static void noTwoCombPointsAtOnePlace() {
        DUE.sentence("comb points (no two alike)");
        DUE.run("setComb 5 1 = 100", "setComb 5 2 = 1", "count 16 = 1", "setComb 6 3 = 100", "setComb 4 4 = 100",
            "count 16 = 3", "errorAt 5 = 2", "errorAt 4 = 4", "errorAt 6 = 3", "setComb 5 100 = 2", "count 16 = 2",
            "setComb 5 100 = STATE");
        DUE.run("setComb 0 0 = 100", "setComb 0 0 = 0", "count 16 = 1", "setComb 0 100 = 0", "count 16 = 0");
    }

    private static void combRemoval() {
        DUE.sentence("100 to remove the comb point");
        DUE.run(points("setComb", FULL, "setComb 0 100 = 0", "count 16 = 9", "errorAt 0 = 1", "errorAt 10 = 1",
            "setComb 90 100 = 9", "errorAt 90 = 8", "setComb 40 100 = 4", "errorAt 30 = 3", "errorAt 40 = 4",
            "errorAt 39 = 3", "errorAt 50 = 5", "count 16 = 7", "setComb 50 3 = 5", "errorAt 40 = 3", "undo = 5",
            "undo = 4", "errorAt 39 = 3", "errorAt 41 = 4"));
    }

    private static void combRemovedThatIsNotThere() {
        DUE.sentence("ILLEGAL_STATE if a comb point is to be removed that there is not");
        DUE.run("setComb 0 100 = STATE", "setComb 5 9 = 100", "setComb 4 100 = STATE", "setComb 6 100 = STATE",
            "setComb -5 100 = STATE", "errorAt 6 = 9", "count 16 = 1", "count 19 = 1", "setComb 5 100 = 9",
            "setComb 5 100 = STATE", "count 19 = 2");
        DUE.run(points("setComb", FULL, "setComb 5 100 = STATE", "setComb 100 100 = STATE", "count 16 = 10"));
        DUE.refused(points("setComb", FULL), "setComb 45 100", "STATE");
        DUE.refused(new String[0], "setComb 0 100", "STATE");
    }

    private static void previousError() {
        DUE.sentence("Returns the previous error of the comb point, or 100");
        DUE.run("setComb 5 99 = 100", "setComb 6 0 = 100", "setComb 7 -99 = 100", "setComb 6 3 = 0",
            "setComb 5 4 = 99", "setComb 7 100 = -99", "setComb 7 2 = 100");
    }

    private static void combErrorsInTheirOrder() {
        DUE.sentence("setComb: INVALID_ARGUMENT, then ILLEGAL_STATE, then CAPACITY_EXCEEDED");
        DUE.run(points("setComb", FULL, "setComb 20001 1 = INVALID", "setComb -20001 1 = INVALID",
            "setComb 5 101 = INVALID", "setComb 5 -100 = INVALID", "setComb 20001 100 = INVALID",
            "setComb 5 100 = STATE", "setComb 5 1 = FULL", "setComb 5 99 = FULL", "setComb 5 -99 = FULL",
            "setComb 20000 0 = FULL", "setComb -20000 0 = FULL"));
    }

    private static void errorAtAPoint() {
        DUE.sentence("The error at a place x is that of the comb point there");
        DUE.run("setComb -7 11", "setComb 0 -12", "setComb 7 13", "errorAt -7 = 11", "errorAt 0 = -12",
            "errorAt 7 = 13");
        DUE.run("setComb 4 99", "setComb 5 -99", "setComb 6 99", "errorAt 4 = 99", "errorAt 5 = -99",
            "errorAt 6 = 99");
    }

    private static void errorBelowTheLowest() {
        DUE.sentence("below the lowest comb point it is the error of that one");
        DUE.run("setComb 10 50", "setComb 20 -50", "errorAt 11 = 40", "errorAt 10 = 50", "errorAt 9 = 50",
            "errorAt 0 = 50", "errorAt -20000 = 50");
        DUE.run("setComb -19999 -3", "setComb -19998 5", "errorAt -19998 = 5", "errorAt -19999 = -3",
            "errorAt -20000 = -3");
    }

    private static void errorAboveTheHighest() {
        DUE.sentence("above the highest one that of the highest one");
        DUE.run("setComb 10 50", "setComb 20 -50", "errorAt 19 = -40", "errorAt 20 = -50", "errorAt 21 = -50",
            "errorAt 20000 = -50");
        DUE.run("setComb 19999 -3", "setComb 19998 5", "errorAt 19998 = 5", "errorAt 19999 = -3",
            "errorAt 20000 = -3");
        DUE.run(points("setComb", FULL, "errorAt 89 = 8", "errorAt 90 = 9", "errorAt 91 = 9", "errorAt 20000 = 9"));
    }

    private static void errorWithoutPoints() {
        DUE.sentence("without comb points it is 0");
        DUE.run("errorAt -20000 = 0", "errorAt 0 = 0", "errorAt 20000 = 0", "setComb 3 9", "errorAt 3 = 9",
            "setComb 3 100", "errorAt -20000 = 0", "errorAt 3 = 0", "errorAt 20000 = 0", "moveTo 20000 = 0",
            "moveTo -20000 = 0");
    }

    private static void errorOfOnePoint() {
        DUE.sentence("below the lowest .. above the highest: one point is both");
        DUE.run("setComb 3 9", "errorAt 2 = 9", "errorAt 3 = 9", "errorAt 4 = 9", "errorAt -20000 = 9",
            "errorAt 20000 = 9");
    }

    private static void errorRoundedDownFalling() {
        DUE.sentence("e + ((e' - e) * (x - p)) // (p' - p), \"//\" the division rounded down: falling");
        // -2 * 1 / 3 is -0.67, so -1; -2 * 2 / 3 is -1.33, so -2
        DUE.run("setComb 0 5", "setComb 3 3", "errorAt 0 = 5", "errorAt 1 = 4", "errorAt 2 = 3", "errorAt 3 = 3");
        DUE.run("setComb 0 0", "setComb 20000 -1", "errorAt 0 = 0", "errorAt 1 = -1", "errorAt 19999 = -1");
        // exact quotients aren't rounded
        DUE.run("setComb 0 0", "setComb 4 -8", "errorAt 1 = -2", "errorAt 2 = -4", "errorAt 3 = -6");
        DUE.run("setComb -3 5", "setComb 0 3", "errorAt -2 = 4", "errorAt -1 = 3");
    }

    private static void errorRoundedDownRising() {
        DUE.sentence("e + ((e' - e) * (x - p)) // (p' - p), \"//\" the division rounded down: rising");
        DUE.run("setComb 0 -9", "setComb 3 -7", "errorAt 0 = -9", "errorAt 1 = -9", "errorAt 2 = -8",
            "errorAt 3 = -7");
        DUE.run("setComb 0 -1", "setComb 20000 0", "errorAt 1 = -1", "errorAt 19999 = -1", "errorAt 20000 = 0");
        DUE.run("setComb 0 -5", "setComb 2 -4", "errorAt 1 = -5", "setComb 2 -2", "errorAt 1 = -4");
    }

    private static void errorBetweenNeighboursOnly() {
        DUE.sentence("between two comb points next to one another");
        DUE.run("setComb 0 0", "setComb 20 20", "setComb 10 90", "errorAt 5 = 45", "errorAt 15 = 55",
            "errorAt 9 = 81", "errorAt 10 = 90", "errorAt 11 = 83", "setComb 10 100", "errorAt 10 = 10");
    }

    private static void errorBetweenTheFarthest() {
        DUE.sentence("e + ((e' - e) * (x - p)) // (p' - p): the greatest that there are");
        DUE.run("setComb -20000 99", "setComb 20000 -99", "errorAt -20000 = 99", "errorAt -19999 = 98",
            "errorAt 0 = 0", "errorAt 1 = -1", "errorAt 19999 = -99", "errorAt 20000 = -99");
        DUE.run("setComb -20000 -99", "setComb 20000 99", "errorAt -19999 = -99", "errorAt 0 = 0", "errorAt 1 = 0",
            "errorAt 19999 = 98", "errorAt 20000 = 99");
    }

    private static void errorAtRange() {
        DUE.sentence("errorAt: place -20000 to 20000; INVALID_ARGUMENT if place is out of range");
        DUE.run("setComb 0 3", "errorAt -20001 = INVALID", "errorAt -20000 = 3", "errorAt -19999 = 3",
            "errorAt 19999 = 3", "errorAt 20000 = 3", "errorAt 20001 = INVALID", "errorAt MIN = INVALID",
            "errorAt MAX = INVALID");
    }
}
