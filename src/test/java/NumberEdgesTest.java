/** Each sentence of the document that names a boundary of a number: promises 1, 2, 18, and the torque. */
public final class NumberEdgesTest {
    private static final Due DUE = new Due("NumberEdgesTest");

    public static void main(String[] args) {
        newObjectIsAtZero();
        newObjectHasNothing();
        newObjectHasItsFirstNumbers();
        stepIsOneOfFive();
        stepIsTheLengthOfAMicrostep();
        torqueNumberRange();
        speedRange();
        dropRange();
        backlashRange();
        assumedBacklashRange();
        whatIsZeroToFive();
        previousNumberIsReturned();
        backlashWaitsForTheMotor();
        torqueRoundsTowardZero();
        torqueIsNotLessThanZero();
        torqueOfZeroMovesWithoutALoad();
        loadIsAtMostTheTorque();
        countRange();
        DUE.end();
    }

    private static void newObjectIsAtZero() {
        DUE.sentence("Creates an axis at 0");
        DUE.run("count 6 = 0", "count 7 = 0", "count 8 = 0", "count 9 = 0", "count 10 = 0", "count 11 = 0",
            "counter 0 = 0", "counter 1 = 0", "why 0 = 0");
        DUE.run("account 0 = 0", "account 1 = 0", "account 2 = 0", "account 3 = 0", "account 4 = 0", "account 5 = 0");
    }

    private static void newObjectHasNothing() {
        DUE.sentence("without loads, comb points, a flag, commands and images, with an empty text");
        DUE.run("count 13 = 0", "count 14 = 0", "count 15 = 0", "count 16 = 0", "count 17 = 0", "count 18 = 0",
            "count 19 = 0", "count 20 = 0", "loadAt -20000 = 0", "loadAt 0 = 0", "loadAt 20000 = 0",
            "errorAt -20000 = 0", "errorAt 0 = 0", "errorAt 20000 = 0", "flag 0 = NONE", "flag 1 = NONE",
            "command 0 0 = NONE", "command 0 1 = NONE", "back 0 = STATE", "back 1 = STATE", "undo = STATE",
            "run 1 = STATE", "home 0 = STATE", "home 1 = STATE", "check 0 = STATE", "check 1 = STATE",
            "clearText = 0", "load = 0");
    }

    private static void newObjectHasItsFirstNumbers() {
        DUE.sentence("s (at first 4), t (at first 100), v (at first 100), d (at first 10), b and the assumed 0");
        DUE.run("count 0 = 4", "count 1 = 100", "count 2 = 100", "count 3 = 10", "count 4 = 0", "count 5 = 0",
            "count 12 = 90");
    }

    private static void stepIsOneOfFive() {
        DUE.sentence("A microstep is s ticks long, s being 1, 2, 4, 8 or 16");
        DUE.run("setNumber 0 0 = INVALID", "count 0 = 4", "setNumber 0 1 = 4", "count 0 = 1", "setNumber 0 2 = 1",
            "count 0 = 2", "setNumber 0 3 = INVALID", "count 0 = 2", "setNumber 0 4 = 2", "count 0 = 4",
            "setNumber 0 5 = INVALID", "setNumber 0 6 = INVALID", "setNumber 0 7 = INVALID", "count 0 = 4",
            "setNumber 0 8 = 4", "count 0 = 8", "setNumber 0 9 = INVALID", "setNumber 0 10 = INVALID",
            "setNumber 0 12 = INVALID", "setNumber 0 14 = INVALID", "setNumber 0 15 = INVALID", "count 0 = 8",
            "setNumber 0 16 = 8", "count 0 = 16", "setNumber 0 17 = INVALID", "setNumber 0 20 = INVALID",
            "setNumber 0 24 = INVALID", "setNumber 0 31 = INVALID", "setNumber 0 32 = INVALID",
            "setNumber 0 64 = INVALID", "setNumber 0 -1 = INVALID", "setNumber 0 -2 = INVALID",
            "setNumber 0 -4 = INVALID", "setNumber 0 -16 = INVALID", "setNumber 0 MIN = INVALID",
            "setNumber 0 MAX = INVALID", "setNumber 0 1073741824 = INVALID", "count 0 = 16", "count 19 = 5");
    }

    private static void stepIsTheLengthOfAMicrostep() {
        DUE.sentence("A microstep is s ticks long");
        for (int s = 1; s <= 16; s *= 2) {
            DUE.run("setNumber 0 " + s, "moveTo 16 = 0", "count 6 = 16", "count 7 = 16", "account 0 = " + 16 / s,
                "account 4 = 16", "moveTo " + (16 - s) + " = 0", "count 6 = " + (16 - s),
                "account 0 = " + (16 / s + 1), "account 4 = " + (16 + s));
        }
    }

    private static void torqueNumberRange() {
        DUE.sentence("t is 0 to 200 (at first 100)");
        range(1, 0, 200, 100);
    }

    private static void speedRange() {
        DUE.sentence("the speed v is 1 to 1000 (at first 100)");
        range(2, 1, 1000, 100);
    }

    private static void dropRange() {
        DUE.sentence("d is 0 to 100 (at first 10)");
        range(3, 0, 100, 10);
    }

    private static void backlashRange() {
        DUE.sentence("The backlash b is 0 to 50 (at first 0)");
        range(4, 0, 50, 0);
    }

    private static void assumedBacklashRange() {
        DUE.sentence("the assumed backlash, 0 to 50 (at first 0)");
        range(5, 0, 50, 0);
    }

    /** Just outside, at the edge and just inside, at both ends. */
    private static void range(int what, int least, int greatest, int first) {
        String call = "setNumber " + what + " ";
        String count = "count " + what + " = ";
        DUE.run(count + first, call + (least - 1) + " = INVALID", call + (greatest + 1) + " = INVALID",
            call + "MIN = INVALID", call + "MAX = INVALID", count + first, "count 19 = 0",
            call + least + " = " + first, count + least, call + (least - 1) + " = INVALID", count + least,
            call + (least + 1) + " = " + least, count + (least + 1),
            call + (greatest - 1) + " = " + (least + 1), count + (greatest - 1),
            call + greatest + " = " + (greatest - 1), count + greatest, call + (greatest + 1) + " = INVALID",
            count + greatest, "count 19 = 4");
    }

    private static void whatIsZeroToFive() {
        DUE.sentence("INVALID_ARGUMENT if what or value is out of range");
        DUE.run("setNumber -1 1 = INVALID", "setNumber 6 1 = INVALID", "setNumber 7 1 = INVALID",
            "setNumber MIN 1 = INVALID", "setNumber MAX 1 = INVALID", "count 19 = 0", "setNumber 0 1 = 4",
            "setNumber 1 1 = 100", "setNumber 2 1 = 100", "setNumber 3 1 = 10", "setNumber 4 1 = 0",
            "setNumber 5 1 = 0");
        DUE.run("setNumber -1 0 = INVALID", "setNumber 6 0 = INVALID", "setNumber -1 4 = INVALID",
            "setNumber 6 4 = INVALID", "count 19 = 0");
    }

    private static void previousNumberIsReturned() {
        DUE.sentence("Returns the previous number");
        DUE.run("setNumber 1 0 = 100", "setNumber 1 0 = 0", "setNumber 1 200 = 0", "setNumber 1 200 = 200",
            "setNumber 1 201 = INVALID", "setNumber 1 1 = 200", "undo = 4", "setNumber 1 2 = 200");
    }

    private static void backlashWaitsForTheMotor() {
        DUE.sentence("the backlash (the table follows when the motor moves next)");
        DUE.run("setNumber 4 50", "moveTo 52 = 0", "count 8 = 2", "setNumber 4 49 = 50", "count 8 = 2",
            "setNumber 4 0 = 49", "count 8 = 2", "moveTo 53 = 0", "count 8 = 2", "moveTo 48 = 0", "count 8 = 48");
        DUE.run("setNumber 4 50", "moveTo 52 = 0", "setNumber 4 47", "moveTo 48 = 0", "count 8 = 2", "setNumber 4 41",
            "moveTo 44 = 0", "count 8 = 3");
    }

    private static void torqueRoundsTowardZero() {
        DUE.sentence("a torque of t - v * d / 100 (\"/\" is the division rounded toward 0)");
        DUE.run("setNumber 3 1", "setNumber 2 99", "count 12 = 100", "setNumber 2 100", "count 12 = 99",
            "setNumber 2 101", "count 12 = 99", "setNumber 2 199", "count 12 = 99", "setNumber 2 200",
            "count 12 = 98", "setNumber 3 0", "setNumber 2 1000", "count 12 = 100", "setNumber 3 1",
            "count 12 = 90");
    }

    private static void torqueIsNotLessThanZero() {
        DUE.sentence("a torque of t - v * d / 100, but not less than 0");
        DUE.run("setNumber 1 10", "setNumber 3 9", "count 12 = 1", "setNumber 3 10", "count 12 = 0", "setNumber 3 11",
            "count 12 = 0", "setNumber 2 1000", "setNumber 3 100", "count 12 = 0", "setNumber 1 0", "count 12 = 0");
        DUE.run("setNumber 1 200", "setNumber 2 200", "setNumber 3 100", "count 12 = 0", "setNumber 2 199",
            "count 12 = 1", "setNumber 2 201", "count 12 = 0");
    }

    private static void torqueOfZeroMovesWithoutALoad() {
        DUE.sentence("a torque .. not less than 0: it is at least a load of 0, and less than one of 1");
        String[] weak = {"setNumber 1 0", "setNumber 2 1000", "setNumber 3 100"};
        DUE.run(weak[0], weak[1], weak[2], "moveTo 40 = 0", "count 7 = 40", "account 1 = 0", "losses -40 1000 = 0",
            "fastest -40 = 1000", "setLoad 40 0", "moveTo 44 = 0", "account 1 = 0", "setLoad 40 1", "moveTo 48 = 0",
            "account 1 = 1", "count 9 = 4");
    }

    private static void loadIsAtMostTheTorque() {
        DUE.sentence("If the torque is at least the load at the place of the table, the motor moves");
        DUE.run("setLoad 0 89", "moveTo 4 = 0", "account 1 = 0", "setLoad 0 90", "moveTo 8 = 0", "account 1 = 0",
            "count 7 = 8", "setLoad 0 91", "moveTo 12 = 0", "account 1 = 1", "count 7 = 8", "count 9 = 4");
        DUE.run("setNumber 1 200", "setNumber 3 0", "setLoad 0 200", "moveTo 4 = 0", "account 1 = 0",
            "setNumber 1 199", "moveTo 8 = 0", "account 1 = 1");
    }

    private static void countRange() {
        DUE.sentence("count: what 0 to 20; INVALID_ARGUMENT if what is out of range");
        DUE.run("count -1 = INVALID", "count 0 = 4", "count 20 = 0", "count 21 = INVALID", "count 22 = INVALID",
            "count MIN = INVALID", "count MAX = INVALID");
    }
}
