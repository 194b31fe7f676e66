/** Each sentence of 'Flag' that names a boundary, and promises 5, 12 to 14, 23. */
public final class FlagEdgesTest {
    private static final Due DUE = new Due("FlagEdgesTest");
    private static final String FINE = "setNumber 0 1";
    private static final String COARSE = "setNumber 0 16";

    public static void main(String[] args) {
        flagFrom();
        flagTo();
        flagFromLessThanTo();
        setFlagTellsIfThereWasOne();
        flagEnds();
        flagThatIsNotThere();
        flagCoversItsEnds();
        fromBelowAtSixteenBelow();
        fromBelowNotLessThanF();
        fromAboveAtSixteenAbove();
        fromAboveNotGreaterThanG();
        seekByTheTable();
        seekAtTheEndsOfThePlaces();
        twentyThousandUpward();
        twentyThousandDownward();
        twentyThousandBothWaysFromBelow();
        twentyThousandBothWaysFromAbove();
        twentyThousandOnTheFirstWay();
        notReachedAsItStalls();
        notReachedOnTheWayBack();
        notReachedChangesNothing();
        seekThroughLoads();
        assumedBacklashFromBelowOnly();
        homeTellsTheDifference();
        homeSide();
        homeWithoutAFlag();
        homeErrorsInTheirOrder();
        checkTellsWhatSeemsLost();
        checkSide();
        checkWithoutAFlag();
        checkErrorsInTheirOrder();
        savedOnlyIfReached();
        correctRange();
        correctToTheLeast();
        correctToTheGreatest();
        correctFromBeyond();
        correctErrorsInTheirOrder();
        DUE.end();
    }

    private static void flagFrom() {
        DUE.sentence("setFlag: from -20000 to 20000");
        DUE.run("setFlag -20001 0 = INVALID", "setFlag -20001 -20000 = INVALID", "setFlag MIN 0 = INVALID",
            "flag 0 = NONE", "setFlag -20000 0 = 0", "flag 0 = -20000", "setFlag -19999 0 = 1", "flag 0 = -19999",
            "setFlag -20001 0 = INVALID", "flag 0 = -19999", "setFlag 19999 20000 = 1", "flag 0 = 19999",
            "setFlag 20000 20001 = INVALID", "setFlag 20000 20000 = INVALID", "setFlag 20001 20002 = INVALID",
            "flag 0 = 19999", "count 19 = 3");
        DUE.refused(new String[] {"setFlag 3 4"}, "setFlag -20001 0", "INVALID");
        DUE.refused(new String[0], "setFlag -20001 0", "INVALID");
    }

    private static void flagTo() {
        DUE.sentence("setFlag: to greater than from, at most 20000");
        DUE.run("setFlag 0 20001 = INVALID", "setFlag 0 MAX = INVALID", "setFlag MIN MAX = INVALID",
            "flag 1 = NONE", "setFlag 0 20000 = 0", "flag 1 = 20000", "setFlag 0 19999 = 1", "flag 1 = 19999",
            "setFlag 0 20001 = INVALID", "flag 1 = 19999", "setFlag -20000 -19999 = 1", "flag 1 = -19999",
            "setFlag -20001 -20002 = INVALID", "setFlag -20000 20000 = 1", "flag 0 = -20000", "flag 1 = 20000");
        DUE.refused(new String[] {"setFlag 3 4"}, "setFlag 0 20001", "INVALID");
    }

    private static void flagFromLessThanTo() {
        DUE.sentence("-20000 <= f < g <= 20000; to: greater than from");
        DUE.run("setFlag 5 5 = INVALID", "setFlag 5 4 = INVALID", "setFlag 5 6 = 0", "setFlag -5 -5 = INVALID",
            "setFlag -5 -6 = INVALID", "setFlag -5 -4 = 1", "setFlag -5 5 = 1", "setFlag 5 -5 = INVALID",
            "setFlag 0 0 = INVALID", "setFlag MAX MIN = INVALID", "flag 0 = -5", "flag 1 = 5");
        DUE.refused(new String[] {"setFlag 3 4"}, "setFlag 5 5", "INVALID");
    }

    private static void setFlagTellsIfThereWasOne() {
        DUE.sentence("Returns 1 if there was a flag, otherwise 0");
        DUE.run("setFlag 5 6 = 0", "setFlag 5 6 = 1", "undo = 1", "undo = 0", "setFlag 5 6 = 0");
        DUE.run("type f5:6;", "load = 1", "setFlag 7 8 = 1");
        DUE.run("setFlag 0 1 = 0", "setFlag -1 0 = 1", "flag 0 = -1", "flag 1 = 0");
    }

    private static void flagEnds() {
        DUE.sentence("flag: end 0 f, 1 g; INVALID_ARGUMENT if end is out of range");
        DUE.run("setFlag -3 4", "flag -1 = INVALID", "flag 0 = -3", "flag 1 = 4", "flag 2 = INVALID",
            "flag MIN = INVALID", "flag MAX = INVALID");
    }

    private static void flagThatIsNotThere() {
        DUE.sentence("flag: INVALID_ARGUMENT; NONE if there is no flag");
        DUE.run("flag 0 = NONE", "flag 1 = NONE", "flag 2 = INVALID", "flag -1 = INVALID");
    }

    private static void flagCoversItsEnds() {
        DUE.sentence("a flag, which covers the places of the table from f to g");
        DUE.run(FINE, "setFlag 5 7", "moveTo 4", "count 14 = 0", "moveTo 5", "count 14 = 1", "moveTo 6",
            "count 14 = 1", "moveTo 7", "count 14 = 1", "moveTo 8", "count 14 = 0", "setNumber 4 1", "moveTo 9",
            "count 8 = 8", "count 14 = 0", "moveTo 7", "count 14 = 1", "setNumber 4 2", "moveTo 9", "count 8 = 7",
            "count 14 = 1");
        DUE.run("count 14 = 0", "setFlag 0 1", "count 14 = 1", "setFlag -1 0", "count 14 = 1", "setFlag 1 2",
            "count 14 = 0", "setFlag -2 -1", "count 14 = 0");
    }

    private static void fromBelowAtSixteenBelow() {
        DUE.sentence("from below: as long as the table is at f - 16 or above, a microstep downward is made");
        DUE.run(FINE, "setFlag 0 10", "moveTo -15", "check 0 = 0", "account 0 = " + (15 + 2 + 17));
        DUE.run(FINE, "setFlag 0 10", "moveTo -16", "check 0 = 0", "account 0 = " + (16 + 1 + 17));
        DUE.run(FINE, "setFlag 0 10", "moveTo -17", "check 0 = 0", "account 0 = " + (17 + 17));
        DUE.run(FINE, "setFlag 0 10", "moveTo -18", "check 0 = 0", "account 0 = " + (18 + 18));
        DUE.run(COARSE, "setFlag 0 10", "moveTo -16", "check 0 = 0", "account 0 = " + (1 + 1 + 2));
        DUE.run(COARSE, "setFlag 1 10", "moveTo -16", "check 0 = 15", "account 0 = " + (1 + 2));
        DUE.run(FINE, "setFlag 0 10", "check 0 = 0", "account 0 = 34");
        DUE.run(FINE, "setFlag 0 10", "moveTo 40", "check 0 = 0", "account 0 = " + (40 + 57 + 17));
    }

    private static void fromBelowNotLessThanF() {
        DUE.sentence("then, as long as it is less than f, one upward");
        DUE.run(FINE, "setFlag 5 10", "check 0 = 0", "count 8 = 5");
        DUE.run("setFlag 4 10", "check 0 = 0", "count 8 = 4", "count 14 = 1");
        DUE.run("setFlag 5 10", "check 0 = 3", "count 8 = 8");
        DUE.run("setFlag 3 10", "check 0 = 1", "count 8 = 4");
        DUE.run(COARSE, "setFlag 5 6", "check 0 = 11", "count 8 = 16", "count 14 = 0", "account 0 = 3");
        DUE.run(COARSE, "setFlag -1 6", "check 0 = 1", "count 8 = 0");
    }

    private static void fromAboveAtSixteenAbove() {
        DUE.sentence("from above: as long as the table is at g + 16 or below, a microstep upward is made");
        DUE.run(FINE, "setFlag -10 0", "moveTo 15", "check 1 = 0", "account 0 = " + (15 + 2 + 17));
        DUE.run(FINE, "setFlag -10 0", "moveTo 16", "check 1 = 0", "account 0 = " + (16 + 1 + 17));
        DUE.run(FINE, "setFlag -10 0", "moveTo 17", "check 1 = 0", "account 0 = " + (17 + 17));
        DUE.run(FINE, "setFlag -10 0", "moveTo 18", "check 1 = 0", "account 0 = " + (18 + 18));
        DUE.run(COARSE, "setFlag -10 0", "moveTo 16", "check 1 = 0", "account 0 = " + (1 + 1 + 2));
        DUE.run(COARSE, "setFlag -10 -1", "moveTo 16", "check 1 = -15", "account 0 = " + (1 + 2));
        DUE.run(FINE, "setFlag -10 0", "check 1 = 0", "account 0 = 34");
        DUE.run(FINE, "setFlag -10 0", "moveTo -40", "check 1 = 0", "account 0 = " + (40 + 57 + 17));
    }

    private static void fromAboveNotGreaterThanG() {
        DUE.sentence("then, as long as it is greater than g, one downward");
        DUE.run(FINE, "setFlag -10 -5", "check 1 = 0", "count 8 = -5");
        DUE.run("setFlag -10 -4", "check 1 = 0", "count 8 = -4", "count 14 = 1");
        DUE.run("setFlag -10 -5", "check 1 = -3", "count 8 = -8");
        DUE.run("setFlag -10 -3", "check 1 = -1", "count 8 = -4");
        DUE.run(COARSE, "setFlag -6 -5", "check 1 = -11", "count 8 = -16", "count 14 = 0", "account 0 = 3");
        DUE.run(COARSE, "setFlag -6 1", "check 1 = -1", "count 8 = 0");
    }

    private static void seekByTheTable() {
        DUE.sentence("as long as the table is ..: the table, not the motor");
        // from below: motor and table go down to -17, then the motor to 20, the table to 0
        DUE.run(FINE, "setNumber 4 20", "setFlag 0 10", "check 0 = 20", "count 7 = 20", "count 8 = 0",
            "account 0 = " + (17 + 37));
        // from above: the motor goes up to 47, the table to 27, then both down to 10
        DUE.run(FINE, "setNumber 4 20", "setFlag 0 10", "check 1 = 0", "count 7 = 10", "count 8 = 10",
            "account 0 = " + (47 + 37));
        // a backlash that became smaller: the first microstep, downward, brings the table up to 44
        DUE.run("setNumber 4 50", "moveTo 48", "count 8 = 0", "setNumber 4 0", "setFlag 10 50", "check 0 = 2",
            "count 8 = 12", "account 4 = " + (48 + 56 + 20), "account 0 = " + (12 + 1 + 13 + 5));
        DUE.run("setNumber 4 50", "moveTo 48", "count 8 = 0", "setNumber 4 0", "setFlag 40 50", "check 0 = 12",
            "count 8 = 52", "account 0 = " + (12 + 1));
        DUE.run("setNumber 4 50", "moveTo 48", "count 8 = 0", "setNumber 4 0", "setFlag -20 -17", "check 1 = -3",
            "count 8 = -20", "account 0 = " + (12 + 1 + 16));
    }

    private static void seekAtTheEndsOfThePlaces() {
        DUE.sentence("-20000 <= f < g <= 20000: the table goes further to find it");
        DUE.run("setFlag -20000 -19999", "home 0 = 0", "count 8 = -20000", "account 0 = " + (5005 + 5));
        DUE.run("setFlag 19999 20000", "home 1 = 0", "count 8 = 20000", "account 0 = " + (5005 + 5));
        DUE.run("setFlag -20000 20000", "home 0 = 0", "home 1 = 0", "count 8 = 20000", "count 6 = 20000");
    }

    private static void twentyThousandUpward() {
        DUE.sentence("If it takes more than 20000 microsteps in all, the flag is not reached: upward");
        for (String call : new String[] {"check 0", "home 0"}) {
            DUE.run(FINE, "setFlag 19999 20000", call + " = 0", "account 0 = 19999", "account 5 = 1");
            DUE.run(FINE, "moveTo -1", "setFlag 19999 20000", call + " = 0", "account 0 = 20001", "account 5 = 1");
            DUE.run(FINE, "moveTo -2", "setFlag 19999 20000", call + " = NONE", "account 0 = 2", "account 5 = 0",
                "count 8 = -2");
            DUE.run("setNumber 0 2", "moveTo -2", "setFlag 19999 20000",
                call + " = " + (call.startsWith("c") ? 1 : -1), "account 0 = 10002");
        }
    }

    private static void twentyThousandDownward() {
        DUE.sentence("If it takes more than 20000 microsteps in all, the flag is not reached: downward");
        for (String call : new String[] {"check 1", "home 1"}) {
            DUE.run(FINE, "setFlag -20000 -19999", call + " = 0", "account 0 = 19999", "account 5 = 1");
            DUE.run(FINE, "moveTo 1", "setFlag -20000 -19999", call + " = 0", "account 0 = 20001", "account 5 = 1");
            DUE.run(FINE, "moveTo 2", "setFlag -20000 -19999", call + " = NONE", "account 0 = 2", "account 5 = 0",
                "count 8 = 2");
        }
    }

    private static void twentyThousandBothWaysFromBelow() {
        DUE.sentence("more than 20000 microsteps in all: downward and upward together");
        DUE.run(FINE, "setFlag -19965 0", "check 0 = 0", "account 0 = 19999");
        DUE.run(FINE, "setFlag -19966 0", "check 0 = 0", "account 0 = 20000", "count 8 = -19966");
        DUE.run(FINE, "setFlag -19967 0", "check 0 = NONE", "account 0 = 0", "count 8 = 0");
        DUE.run(FINE, "setFlag -19966 0", "home 0 = 0", "account 0 = 20000");
        DUE.run(FINE, "setFlag -19967 0", "home 0 = NONE", "account 0 = 0");
        // by the backlash 10 the motor goes 10 further upward
        DUE.run(FINE, "setNumber 4 10", "setFlag -19956 0", "check 0 = 10", "account 0 = 20000");
        DUE.run(FINE, "setNumber 4 10", "setFlag -19957 0", "check 0 = NONE", "account 0 = 0");
    }

    private static void twentyThousandBothWaysFromAbove() {
        DUE.sentence("more than 20000 microsteps in all: upward and downward together");
        DUE.run(FINE, "setFlag 0 19965", "check 1 = 0", "account 0 = 19999");
        DUE.run(FINE, "setFlag 0 19966", "check 1 = 0", "account 0 = 20000", "count 8 = 19966");
        DUE.run(FINE, "setFlag 0 19967", "check 1 = NONE", "account 0 = 0", "count 8 = 0");
        DUE.run(FINE, "setFlag 0 19966", "home 1 = 0", "account 0 = 20000");
        DUE.run(FINE, "setFlag 0 19967", "home 1 = NONE", "account 0 = 0");
        DUE.run(FINE, "setNumber 4 10", "setFlag 0 19946", "check 1 = 0", "account 0 = 20000");
        DUE.run(FINE, "setNumber 4 10", "setFlag 0 19947", "check 1 = NONE", "account 0 = 0");
    }

    private static void twentyThousandOnTheFirstWay() {
        DUE.sentence("more than 20000 microsteps in all: those of the first way are counted, too");
        DUE.run(FINE, "setFlag -19982 0", "check 0 = NONE", "setFlag -19983 0", "check 0 = NONE", "setFlag -19984 0",
            "check 0 = NONE", "setFlag -20000 0", "check 0 = NONE", "count 8 = 0");
        DUE.run(FINE, "setFlag 0 19982", "check 1 = NONE", "setFlag 0 19983", "check 1 = NONE", "setFlag 0 19984",
            "check 1 = NONE", "setFlag 0 20000", "check 1 = NONE", "count 8 = 0");
    }

    private static void notReachedAsItStalls() {
        DUE.sentence("If it takes more than 20000 microsteps in all: it does, once it stalls on the first way");
        DUE.run("setNumber 1 0", "setLoad -20000 1", "setFlag -10 10", "home 0 = NONE", "home 1 = NONE",
            "check 0 = NONE", "check 1 = NONE", "count 6 = 0", "count 9 = 0", "count 10 = 0", "account 1 = 0",
            "account 5 = 0");
        DUE.run(FINE, "setFlag 0 10", "setLoad -20000 200", "setLoad -16 0", "check 0 = NONE", "setLoad -17 0",
            "check 0 = 0");
        DUE.run(FINE, "setFlag 0 10", "setLoad 26 200", "check 1 = NONE", "setLoad 28 0", "check 1 = NONE",
            "setLoad 26 -1", "setLoad 27 0", "check 1 = 0");
    }

    private static void notReachedOnTheWayBack() {
        DUE.sentence("If it takes more than 20000 microsteps in all: it does, once it stalls on the way back");
        DUE.run(FINE, "setFlag 0 10", "setLoad 27 200", "check 1 = NONE", "home 1 = NONE", "check 0 = 0");
        DUE.run(FINE, "setFlag 0 10", "setLoad 28 200", "check 1 = 0", "check 0 = 0");
        DUE.run(FINE, "setFlag 0 10", "setLoad -20000 200", "setLoad -16 0", "check 0 = NONE", "home 0 = NONE",
            "check 1 = 0");
        DUE.run(FINE, "setFlag 0 10", "setLoad -20000 200", "setLoad -17 0", "check 0 = 0", "check 1 = 0");
        DUE.run("setLoad -20000 200", "setLoad -19 0", "setFlag 0 10", "check 0 = NONE");
        DUE.run("setLoad -20000 200", "setLoad -20 0", "setFlag 0 10", "check 0 = 0", "account 1 = 0");
    }

    private static void notReachedChangesNothing() {
        DUE.sentence("the flag is not reached, and nothing has happened; NONE if the flag is not reached");
        String[] stuck = {"moveTo 40", "setNumber 1 0", "setLoad -20000 1", "moveTo 60", "setFlag -10 10", "keep 1"};
        String[] far = {FINE, "moveTo -2", "setFlag 19999 20000", "setNumber 4 7"};
        for (String call : new String[] {"home", "check"}) {
            DUE.refused(stuck, call + " 0", "NONE");
            DUE.refused(stuck, call + " 1", "NONE");
            DUE.refused(far, call + " 0", "NONE");
            DUE.refused(far, call + " 1", "NONE");
        }
    }

    private static void seekThroughLoads() {
        DUE.sentence("a microstep downward is made .. one upward: by the load at each place of the table");
        DUE.run("setLoad -20000 90", "setLoad -8 89", "setLoad 3 0", "setLoad 7 90", "setLoad 20 1", "setFlag 0 10",
            "check 0 = 0", "account 0 = 10", "check 1 = -2", "account 0 = " + (10 + 7 + 5), "account 1 = 0");
        // a lag is taken up by the first microstep
        DUE.run("setNumber 1 0", "setLoad -20000 1", "moveTo 28", "setNumber 1 100", "setFlag 0 10", "check 0 = 0",
            "count 9 = 0", "account 0 = " + (7 + 12 + 5), "account 4 = " + (24 + 44 + 20), "account 1 = 7");
    }

    private static void assumedBacklashFromBelowOnly() {
        DUE.sentence("The counter that is due then is f plus the assumed backlash .. from below, and g from above");
        DUE.run("setFlag -40 40", "home 0 = 0", "count 6 = -40", "setNumber 5 50", "check 0 = -50", "home 0 = 50",
            "count 6 = 10", "check 0 = 0", "check 1 = 50", "home 1 = -50", "count 6 = 40", "check 1 = 0");
        DUE.run("setFlag -40 40", "setNumber 5 1", "home 0 = 1", "count 6 = -39", "count 11 = 1");
        DUE.run("setFlag -20000 20000", "setNumber 5 50", "home 0 = 50", "count 6 = -19950");
    }

    private static void homeTellsTheDifference() {
        DUE.sentence("Returns the new counter less the old one; the shift becomes greater by it");
        DUE.run("setFlag 40 60", "correct 7 = -7", "home 0 = 7", "count 6 = 40", "count 11 = 0", "home 0 = 0",
            "count 11 = 0", "correct -7 = 47", "home 1 = -7", "count 6 = 60", "count 11 = 0", "counter 1 = 60");
        DUE.run("setFlag 42 60", "home 0 = -2", "count 6 = 42", "count 7 = 44", "count 11 = -2", "counter 1 = 42");
    }

    private static void homeSide() {
        DUE.sentence("home: side 0 from below, 1 from above; INVALID_ARGUMENT if side is out of range");
        DUE.run("setFlag 40 60", "home -1 = INVALID", "home 2 = INVALID", "home MIN = INVALID", "home MAX = INVALID",
            "count 19 = 1", "home 0 = 0", "count 8 = 40", "home 1 = 0", "count 8 = 60");
        DUE.refused(new String[] {"setFlag 40 60", "correct 5"}, "home 2", "INVALID");
    }

    private static void homeWithoutAFlag() {
        DUE.sentence("home: ILLEGAL_STATE if there is no flag");
        DUE.run("home 0 = STATE", "home 1 = STATE", "setFlag 0 1", "undo", "home 0 = STATE", "setFlag 0 1",
            "home 0 = 0");
        DUE.refused(new String[] {"moveTo 40"}, "home 0", "STATE");
        DUE.refused(new String[] {"moveTo 40"}, "home 1", "STATE");
    }

    private static void homeErrorsInTheirOrder() {
        DUE.sentence("home: INVALID_ARGUMENT, then ILLEGAL_STATE; NONE only if no error code applies");
        DUE.run("home -1 = INVALID", "home 2 = INVALID", "setNumber 1 0", "setLoad -20000 1", "home 0 = STATE",
            "home 2 = INVALID", "setFlag 0 1", "home 2 = INVALID", "home -1 = INVALID", "home 0 = NONE");
    }

    private static void checkTellsWhatSeemsLost() {
        DUE.sentence("the counter less what is due: the ticks that seem lost");
        DUE.run("setFlag 40 60", "correct 7 = -7", "check 0 = -7", "count 6 = 33", "count 11 = -7",
            "correct -14 = 47", "check 1 = 7", "count 6 = 67", "count 11 = 7", "count 10 = 0");
        DUE.run("setFlag -40 -20", "setLoad 20 200", "moveTo 60 = 64", "setLoad 20 -1", "check 1 = 64",
            "count 10 = 64", "correct 64 = -20", "check 1 = 0", "count 10 = 64");
    }

    private static void checkSide() {
        DUE.sentence("check: side 0 from below, 1 from above; INVALID_ARGUMENT if side is out of range");
        DUE.run("setFlag 40 60", "check -1 = INVALID", "check 2 = INVALID", "check MIN = INVALID",
            "check MAX = INVALID", "count 19 = 1", "check 0 = 0", "count 8 = 40", "check 1 = 0", "count 8 = 60");
        DUE.refused(new String[] {"setFlag 40 60", "correct 5"}, "check 2", "INVALID");
    }

    private static void checkWithoutAFlag() {
        DUE.sentence("check: ILLEGAL_STATE if there is no flag");
        DUE.run("check 0 = STATE", "check 1 = STATE", "setFlag 0 1", "undo", "check 0 = STATE", "setFlag 0 1",
            "check 0 = 0");
        DUE.refused(new String[] {"moveTo 40"}, "check 0", "STATE");
        DUE.refused(new String[] {"moveTo 40"}, "check 1", "STATE");
    }

    private static void checkErrorsInTheirOrder() {
        DUE.sentence("check: INVALID_ARGUMENT, then ILLEGAL_STATE; NONE only if no error code applies");
        DUE.run("check -1 = INVALID", "check 2 = INVALID", "setNumber 1 0", "setLoad -20000 1", "check 0 = STATE",
            "check 2 = INVALID", "setFlag 0 1", "check 2 = INVALID", "check -1 = INVALID", "check 0 = NONE");
    }

    private static void savedOnlyIfReached() {
        DUE.sentence("home() and check() not if the flag is not reached");
        DUE.run("setFlag 40 60", "home 0 = 0", "count 19 = 2", "check 1 = 0", "count 19 = 3", "setNumber 1 0",
            "setLoad -20000 1", "count 19 = 5", "home 0 = NONE", "check 0 = NONE", "count 19 = 5", "undo = 4",
            "undo = 3", "count 8 = 60", "undo = 2", "count 8 = 40", "undo = 1", "count 8 = 0");
    }

    private static void correctRange() {
        DUE.sentence("correct: ticks -9999 to 9999; INVALID_ARGUMENT if ticks is out of range");
        DUE.run("correct -10000 = INVALID", "correct 10000 = INVALID", "correct MIN = INVALID",
            "correct MAX = INVALID", "count 6 = 0", "count 19 = 0", "correct 9999 = -9999", "count 11 = -9999",
            "correct -9999 = 0", "count 11 = 0", "correct -9998 = 9998", "correct 9998 = 0", "correct 0 = 0",
            "count 19 = 5", "count 7 = 0");
        DUE.refused(new String[] {"moveTo 40"}, "correct 10000", "INVALID");
        DUE.refused(new String[] {"moveTo 40"}, "correct -10000", "INVALID");
    }

    /** So many times the same line, then some more. */
    private static String[] times(int times, String line, String... more) {
        String[] lines = new String[times + more.length];
        for (int i = 0; i < times; i++) {
            lines[i] = line;
        }
        System.arraycopy(more, 0, lines, times, more.length);
        return lines;
    }

    private static void correctToTheLeast() {
        DUE.sentence("correct: ILLEGAL_STATE if it would be less than -99999");
        DUE.run(times(10, "correct 9999", "count 6 = -99990", "correct 10 = STATE", "correct 9999 = STATE",
            "count 6 = -99990", "correct 8 = -99998", "correct 2 = STATE", "correct 1 = -99999", "correct 1 = STATE",
            "correct 0 = -99999", "count 11 = -99999", "counter 1 = -99999", "correct -1 = -99998"));
        DUE.refused(times(10, "correct 9999"), "correct 10", "STATE");
    }

    private static void correctToTheGreatest() {
        DUE.sentence("correct: ILLEGAL_STATE if it would be .. greater than 99999");
        DUE.run(times(10, "correct -9999", "count 6 = 99990", "correct -10 = STATE", "correct -9999 = STATE",
            "count 6 = 99990", "correct -8 = 99998", "correct -2 = STATE", "correct -1 = 99999", "correct -1 = STATE",
            "correct 0 = 99999", "count 11 = 99999", "counter 1 = 99999", "correct 1 = 99998"));
        DUE.refused(times(10, "correct -9999"), "correct -10", "STATE");
    }

    private static void correctFromBeyond() {
        DUE.sentence("if it would be less than -99999 or greater than 99999: from a counter that is, by "
            + "seeking, too");
        DUE.run(times(10, "correct -9999", "correct -9 = 99999", FINE, "setFlag 0 10", "check 1 = 99999",
            "count 6 = 100009", "correct -1 = STATE", "correct 0 = STATE", "correct 9 = STATE",
            "correct 10 = 99999"));
        DUE.run(times(10, "correct 9999", "correct 9 = -99999", FINE, "setFlag -10 0", "check 0 = -99999",
            "count 6 = -100009", "correct 1 = STATE", "correct 0 = STATE", "correct -9 = STATE",
            "correct -10 = -99999"));
    }

    private static void correctErrorsInTheirOrder() {
        DUE.sentence("correct: INVALID_ARGUMENT, then ILLEGAL_STATE");
        DUE.refused(times(10, "correct 9999"), "correct 10000", "INVALID");
        DUE.refused(times(10, "correct -9999"), "correct -10000", "INVALID");
    }
}
