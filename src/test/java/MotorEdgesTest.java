/** Each sentence of 'Motor, table, counter' and 'Accounts' that names a boundary, by moves. */
public final class MotorEdgesTest {
    private static final Due DUE = new Due("MotorEdgesTest");
    // With these every microstep is a stall, and with the next one none is.
    private static final String WEAK = "setNumber 1 0";
    private static final String LOADED = "setLoad -20000 1";
    private static final String STRONG = "setNumber 1 200";

    public static void main(String[] args) {
        tableIsLessThanTheMotorMinusTheBacklash();
        tableIsGreaterThanTheMotor();
        backlashOfZeroAndFifty();
        tableFollowsAMoveByZero();
        tableFollowsIntoAnotherLoad();
        counterIsTheSum();
        loadAtThePlaceOfTheTable();
        loadWhereItBeginsUpward();
        loadWhereItBeginsDownward();
        loadOnTheOtherSideOfZero();
        loadAtTheTableNotAtTheMotor();
        motorMovesByTheLag();
        motorMovesByZero();
        motorMovesAgainstTheCounter();
        lagStaysWithoutAMicrostep();
        lagOfThirtyTwoSlips();
        lagGreaterThanThirtyTwoSlips();
        lagOfMinusThirtyTwoSlips();
        lagLessThanMinusThirtyTwoSlips();
        stallSlipsOnceAtMost();
        lagOfThirtyTwoGoesBack();
        manySlipsOfOneMove();
        slipsByTheLongestMicrosteps();
        motorStaysInAStall();
        accountsOfMicrostepsAndStalls();
        accountsOfSlips();
        accountOfTicksWithoutSigns();
        accountOfFlags();
        accountRange();
        farthestMove();
        DUE.end();
    }

    private static void tableIsLessThanTheMotorMinusTheBacklash() {
        DUE.sentence("if the table is less than the motor minus b, it comes to the motor minus b");
        DUE.run("setNumber 0 1", "setNumber 4 10", "moveTo 9 = 0", "count 8 = 0", "moveTo 10 = 0", "count 7 = 10",
            "count 8 = 0", "moveTo 11 = 0", "count 7 = 11", "count 8 = 1", "moveTo 12 = 0", "count 8 = 2",
            "moveTo 40 = 0", "count 7 = 40", "count 8 = 30");
        DUE.run("setNumber 0 16", "setNumber 4 10", "moveTo 16 = 0", "count 8 = 6", "moveTo 32 = 0", "count 8 = 22");
    }

    private static void tableIsGreaterThanTheMotor() {
        DUE.sentence("if it is greater than the motor, it comes to the motor");
        DUE.run("setNumber 0 1", "setNumber 4 10", "moveTo 20 = 0", "count 8 = 10", "moveTo 11 = 0", "count 8 = 10",
            "moveTo 10 = 0", "count 8 = 10", "moveTo 9 = 0", "count 7 = 9", "count 8 = 9", "moveTo -5 = 0",
            "count 8 = -5", "moveTo 5 = 0", "count 8 = -5", "moveTo 6 = 0", "count 8 = -4");
        DUE.run("setNumber 4 10", "moveTo -4 = 0", "count 7 = -4", "count 8 = -4");
    }

    private static void backlashOfZeroAndFifty() {
        DUE.sentence("The backlash b is 0 to 50: the table follows by it");
        DUE.run("setNumber 0 1", "moveTo 1 = 0", "count 8 = 1", "moveTo -1 = 0", "count 8 = -1");
        DUE.run("setNumber 0 1", "setNumber 4 50", "moveTo 50 = 0", "count 8 = 0", "moveTo 51 = 0", "count 8 = 1",
            "moveTo 1 = 0", "count 8 = 1", "moveTo 0 = 0", "count 8 = 0");
        DUE.run("setNumber 0 1", "setNumber 4 1", "moveTo 1 = 0", "count 8 = 0", "moveTo 2 = 0", "count 8 = 1");
    }

    private static void tableFollowsAMoveByZero() {
        DUE.sentence("the motor moves by the lag (perhaps by 0), the lag becomes 0, and the table follows");
        DUE.run("setNumber 4 50", "moveTo 48 = 0", "count 8 = 0", "setLoad -20000 200", "moveTo 44 = 0",
            "count 9 = -4", "count 7 = 48", "setLoad -20000 0", "setNumber 4 3", "count 8 = 0", "moveTo 48 = 0",
            "count 9 = 0", "count 7 = 48", "count 8 = 45", "account 4 = 48");
    }

    private static void tableFollowsIntoAnotherLoad() {
        DUE.sentence("when the motor has moved, the table follows: against its direction, too, if b became less");
        DUE.run("setNumber 4 50", "moveTo 100", "count 8 = 50", "setNumber 4 0", "setLoad 90 200", "moveTo 0 = -128",
            "count 6 = 0", "count 7 = 96", "count 8 = 96", "count 9 = 32", "account 1 = 24", "account 4 = 104");
        DUE.run("setNumber 4 50", "moveTo 100", "setNumber 4 0", "setLoad 97 200", "moveTo 0 = 0", "count 8 = 0");
        DUE.run("setNumber 4 50", "moveTo 100", "setNumber 4 0", "setLoad 97 200", "moveTo 104 = 0", "count 8 = 104",
            "moveTo 108 = 0", "account 1 = 1");
    }

    private static void counterIsTheSum() {
        DUE.sentence("it always holds that counter = motor + lag + lost + shift");
        DUE.run("setLoad 20 200", "moveTo 77 = 64", "count 6 = 76", "count 7 = 20", "count 9 = -8", "count 10 = 64",
            "count 11 = 0", "counter 0 = 76", "counter 1 = 76", "correct 13 = 63", "count 11 = -13", "counter 1 = 63",
            "moveTo -300 = -384", "count 6 = -297", "count 7 = 20", "count 9 = 16", "count 10 = -320",
            "counter 1 = -297");
    }

    private static void loadAtThePlaceOfTheTable() {
        DUE.sentence("If the torque is at least the load at the place of the table .. Otherwise, this is a stall");
        DUE.run("setLoad 0 90", "setLoad 40 91", "moveTo 40 = 0", "account 1 = 0", "count 7 = 40", "count 13 = 91",
            "moveTo 44 = 0", "account 1 = 1", "count 7 = 40", "count 8 = 40", "count 9 = 4", "setLoad 40 90",
            "moveTo 48 = 0", "account 1 = 1", "count 7 = 48", "count 9 = 0");
    }

    private static void loadWhereItBeginsUpward() {
        DUE.sentence("the load at the place of the table: upward, from where it begins");
        DUE.run("setLoad 40 91", "moveTo 40 = 0", "account 1 = 0", "moveTo 44 = 0", "account 1 = 1");
        DUE.run("setLoad 41 91", "moveTo 44 = 0", "account 1 = 0", "moveTo 48 = 0", "account 1 = 1", "count 7 = 44");
        DUE.run("setLoad 39 91", "moveTo 44 = 0", "account 1 = 1", "count 7 = 40");
        DUE.run("setLoad 40 91", "moveTo 72 = 64", "count 7 = 40", "count 9 = -32", "account 1 = 8");
        DUE.run("setLoad 40 91", "moveTo 68 = 0", "count 7 = 40", "count 9 = 28", "account 1 = 7");
        DUE.run("setLoad 41 91", "moveTo 72 = 0", "count 7 = 44", "count 9 = 28", "account 1 = 7");
    }

    private static void loadWhereItBeginsDownward() {
        DUE.sentence("the load at the place of the table: downward, below where the next one begins");
        DUE.run("setLoad -20000 91", "setLoad -40 90", "moveTo -40 = 0", "account 1 = 0", "moveTo -44 = 0",
            "account 1 = 0", "moveTo -48 = 0", "account 1 = 1", "count 7 = -44");
        DUE.run("setLoad -20000 91", "setLoad -39 90", "moveTo -40 = 0", "account 1 = 0", "moveTo -44 = 0",
            "account 1 = 1", "count 7 = -40");
        DUE.run("setLoad -20000 91", "setLoad -40 90", "moveTo -76 = -64", "count 7 = -44", "count 9 = 32",
            "account 1 = 8");
        DUE.run("setLoad -20000 91", "setLoad -39 90", "moveTo -76 = -64", "count 7 = -40", "count 9 = 28",
            "account 1 = 9");
    }

    private static void loadOnTheOtherSideOfZero() {
        DUE.sentence("the load at the place of the table: upward below 0, downward above 0");
        DUE.run("moveTo -100", "setLoad -48 91", "moveTo -16 = 64", "count 7 = -48", "count 9 = -32", "account 1 = 8");
        DUE.run("moveTo -100", "setLoad -47 91", "moveTo -16 = 0", "count 7 = -44", "count 9 = 28", "account 1 = 7");
        DUE.run("moveTo 100", "setLoad 0 91", "setLoad 48 90", "moveTo 12 = -64", "count 7 = 44", "count 9 = 32",
            "account 1 = 8");
        DUE.run("moveTo 100", "setLoad 0 91", "setLoad 49 90", "moveTo 12 = -64", "count 7 = 48", "count 9 = 28",
            "account 1 = 9");
    }

    private static void loadAtTheTableNotAtTheMotor() {
        DUE.sentence("at the place of the table (the motor may be further on)");
        DUE.run("setNumber 4 8", "setLoad 1 200", "moveTo 8 = 0", "count 7 = 8", "count 8 = 0", "moveTo 12 = 0",
            "count 7 = 12", "count 8 = 4", "account 1 = 0", "moveTo 16 = 0", "account 1 = 1", "count 7 = 12");
        DUE.run("setNumber 4 7", "setLoad 1 200", "moveTo 8 = 0", "count 8 = 1", "moveTo 12 = 0", "account 1 = 1");
        DUE.run("setNumber 4 8", "setLoad 1 200", "moveTo 16 = 0", "account 1 = 1", "count 7 = 12", "count 9 = 4");
        DUE.run("setNumber 4 8", "moveTo 40 = 0", "count 8 = 32", "setLoad 0 200", "setLoad 32 0", "moveTo 28 = 0",
            "count 7 = 28", "account 1 = 0", "moveTo 24 = 0", "account 1 = 1");
    }

    private static void motorMovesByTheLag() {
        DUE.sentence("the motor moves by the lag .., the lag becomes 0");
        DUE.run(WEAK, LOADED, "moveTo 28 = 0", "count 9 = 28", "count 7 = 0", STRONG, "moveTo 32 = 0", "count 9 = 0",
            "count 7 = 32", "count 8 = 32", "account 0 = 8", "account 1 = 7", "account 2 = 0", "account 4 = 32");
        DUE.run(WEAK, LOADED, "moveTo -28 = 0", "count 9 = -28", STRONG, "moveTo -32 = 0", "count 9 = 0",
            "count 7 = -32", "account 4 = 32");
        // with a lag of 1 the motor is at 10 after nine microsteps, and stalls there
        DUE.run("setNumber 0 1", WEAK, LOADED, "moveTo 1 = 0", "count 9 = 1", STRONG, "setLoad 10 200",
            "moveTo 20 = 0", "count 7 = 10", "count 9 = 10", "account 1 = 11");
        DUE.run("setNumber 0 1", WEAK, LOADED, "moveTo -1 = 0", "count 9 = -1", STRONG, "setLoad -20000 200",
            "setLoad -9 0", "moveTo -20 = 0", "count 7 = -10", "count 9 = -10", "account 1 = 11");
    }

    private static void motorMovesByZero() {
        DUE.sentence("the motor moves by the lag (perhaps by 0)");
        DUE.run(WEAK, LOADED, "moveTo -4 = 0", STRONG, "moveTo 0 = 0", "count 9 = 0", "count 7 = 0", "account 0 = 2",
            "account 1 = 1", "account 4 = 0");
    }

    private static void motorMovesAgainstTheCounter() {
        DUE.sentence("the motor moves by the lag: by one that is less than 0 though the counter goes up");
        DUE.run(WEAK, LOADED, "moveTo 36 = 64", "count 9 = -28", STRONG, "moveTo 40 = 0", "count 7 = -24",
            "count 8 = -24", "count 9 = 0", "account 4 = 24");
        DUE.run(WEAK, LOADED, "moveTo -36 = -64", "count 9 = 28", STRONG, "moveTo -40 = 0", "count 7 = 24",
            "count 8 = 24", "count 9 = 0", "account 4 = 24");
    }

    private static void lagStaysWithoutAMicrostep() {
        DUE.sentence("When a microstep is made .. the motor moves by the lag: without one, it does not");
        DUE.run(WEAK, LOADED, "moveTo 24 = 0", STRONG, "moveTo 24 = 0", "count 9 = 24", "count 7 = 0",
            "moveTo 27 = 0", "count 9 = 24", "moveTo 28 = 0", "count 9 = 0", "count 7 = 28");
    }

    private static void lagOfThirtyTwoSlips() {
        DUE.sentence("if the lag is 32 or greater then, it slips: the lost ticks become greater by 64 and the "
            + "lag less by 64");
        DUE.run("setNumber 0 1", WEAK, LOADED, "moveTo 31 = 0", "count 9 = 31", "count 10 = 0", "account 2 = 0",
            "moveTo 32 = 64", "count 9 = -32", "count 10 = 64", "account 1 = 32", "account 2 = 1", "account 3 = 0",
            "count 7 = 0", "moveTo 33 = 0", "count 9 = -31", "account 2 = 1", "account 3 = 0");
    }

    private static void lagGreaterThanThirtyTwoSlips() {
        DUE.sentence("if the lag is 32 or greater then, it slips: 33, and 47, the greatest upward from 31");
        DUE.run("setNumber 0 1", WEAK, LOADED, "moveTo 31 = 0", "setNumber 0 2", "moveTo 33 = 64", "count 9 = -31",
            "account 2 = 1", "account 3 = 0");
        DUE.run("setNumber 0 1", WEAK, LOADED, "moveTo 31 = 0", "setNumber 0 16", "moveTo 47 = 64", "count 9 = -17");
        DUE.run("setNumber 0 1", WEAK, LOADED, "moveTo -32 = -64", "count 9 = 32", "setNumber 0 16",
            "moveTo -16 = 64", "count 9 = -16", "count 10 = 0");
    }

    private static void lagOfMinusThirtyTwoSlips() {
        DUE.sentence("otherwise, if the lag is -32 or less, the lost ticks become less by 64 and the lag "
            + "greater by 64");
        DUE.run("setNumber 0 1", WEAK, LOADED, "moveTo -31 = 0", "count 9 = -31", "count 10 = 0", "account 3 = 0",
            "moveTo -32 = -64", "count 9 = 32", "count 10 = -64", "account 1 = 32", "account 2 = 0", "account 3 = 1",
            "count 7 = 0", "moveTo -33 = 0", "count 9 = 31", "account 2 = 0", "account 3 = 1");
    }

    private static void lagLessThanMinusThirtyTwoSlips() {
        DUE.sentence("if the lag is -32 or less: -33, and -47, the least downward from -31");
        DUE.run("setNumber 0 1", WEAK, LOADED, "moveTo -31 = 0", "setNumber 0 2", "moveTo -33 = -64", "count 9 = 31",
            "account 3 = 1", "account 2 = 0");
        DUE.run("setNumber 0 1", WEAK, LOADED, "moveTo -31 = 0", "setNumber 0 16", "moveTo -47 = -64",
            "count 9 = 17");
        DUE.run("setNumber 0 1", WEAK, LOADED, "moveTo 32 = 64", "count 9 = -32", "setNumber 0 16", "moveTo 16 = -64",
            "count 9 = 16", "count 10 = 0");
    }

    private static void stallSlipsOnceAtMost() {
        DUE.sentence("(so a stall slips once at most)");
        DUE.run("setNumber 0 16", WEAK, LOADED, "moveTo 16 = 0", "moveTo 32 = 64", "count 9 = -32", "account 1 = 2",
            "account 2 = 1", "account 3 = 0");
        DUE.run("setNumber 0 16", WEAK, LOADED, "moveTo -16 = 0", "moveTo -32 = -64", "count 9 = 32", "account 1 = 2",
            "account 2 = 0", "account 3 = 1");
        DUE.run("setNumber 0 16", WEAK, LOADED, "moveTo 32 = 64", "moveTo 16 = -64", "count 9 = 16", "account 2 = 1",
            "account 3 = 1", "account 1 = 3");
    }

    private static void lagOfThirtyTwoGoesBack() {
        DUE.sentence("if the lag is 32 or greater then .. otherwise, if it is -32 or less: it is looked at "
            + "once changed");
        DUE.run("setNumber 0 1", WEAK, LOADED, "moveTo 32 = 64", "moveTo 33 = 0", "moveTo 32 = -64", "count 9 = 32",
            "moveTo 31 = 0", "count 9 = 31", "moveTo 32 = 64", "count 9 = -32");
        DUE.run("setNumber 0 1", WEAK, LOADED, "moveTo -32 = -64", "count 9 = 32", "moveTo -31 = 64", "count 9 = -31",
            "count 10 = 0");
        DUE.run("setNumber 0 1", WEAK, LOADED, "moveTo 32 = 64", "count 9 = -32", "moveTo 31 = -64", "count 9 = 31",
            "count 10 = 0");
    }

    private static void manySlipsOfOneMove() {
        DUE.sentence("if the lag is 32 or greater then, it slips: at the 32nd tick and every 64 behind it");
        int[] ticks = {31, 32, 33, 95, 96, 97, 159, 160, 161, 20000};
        int[] lost = {0, 64, 64, 64, 128, 128, 128, 192, 192, 20032};
        for (int i = 0; i < ticks.length; i++) {
            DUE.run("setNumber 0 1", WEAK, LOADED, "moveTo " + ticks[i] + " = " + lost[i],
                "count 9 = " + (ticks[i] - lost[i]), "account 2 = " + lost[i] / 64, "account 3 = 0");
            DUE.run("setNumber 0 1", WEAK, LOADED, "moveTo -" + ticks[i] + " = " + -lost[i],
                "count 9 = " + (lost[i] - ticks[i]), "account 3 = " + lost[i] / 64, "account 2 = 0");
        }
        DUE.run("setNumber 0 1", WEAK, LOADED, "moveTo -32 = -64", "moveTo 64 = 128", "count 9 = 0", "count 10 = 64",
            "account 2 = 2", "account 3 = 1");
    }

    private static void slipsByTheLongestMicrosteps() {
        DUE.sentence("the lag is 32 or greater then: by microsteps of 16");
        DUE.run("setNumber 0 16", WEAK, LOADED, "moveTo 16 = 0", "count 9 = 16", "moveTo 80 = 64", "count 9 = 16",
            "moveTo 96 = 64", "count 9 = -32", "account 2 = 2", "account 1 = 6");
        DUE.run("setNumber 0 16", WEAK, LOADED, "moveTo 96 = 128", "count 9 = -32", "account 2 = 2");
        DUE.run("setNumber 0 1", WEAK, LOADED, "moveTo 31 = 0", "setNumber 0 16", "moveTo 111 = 128",
            "count 9 = -17");
        DUE.run("setNumber 0 1", WEAK, LOADED, "moveTo 31 = 0", "setNumber 0 16", "moveTo 95 = 64", "count 9 = 31");
    }

    private static void motorStaysInAStall() {
        DUE.sentence("Otherwise, this is a stall: .. the motor stays");
        DUE.run("setLoad 8 200", "moveTo 1000 = 1024", "count 6 = 1000", "count 7 = 8", "count 8 = 8",
            "count 9 = -32", "count 10 = 1024");
    }

    private static void accountsOfMicrostepsAndStalls() {
        DUE.sentence("The accounts are: 0 the microsteps, 1 the stalls");
        DUE.run("account 0 = 0", "moveTo 3 = 0", "account 0 = 0", "moveTo 4 = 0", "account 0 = 1", "moveTo 40 = 0",
            "account 0 = 10", "account 1 = 0", "setLoad 40 91", "moveTo 44 = 0", "account 0 = 11", "account 1 = 1",
            "moveTo 60 = 0", "account 0 = 15", "account 1 = 5", "moveTo 56 = 0", "account 0 = 16", "account 1 = 6",
            "undo = 5", "account 0 = 15", "account 1 = 5");
    }

    private static void accountsOfSlips() {
        DUE.sentence("2 the slips with which the lost ticks became greater, 3 those with which they became less");
        DUE.run(WEAK, LOADED, "moveTo 28 = 0", "account 2 = 0", "account 3 = 0", "moveTo 32 = 64", "account 2 = 1",
            "account 3 = 0", "moveTo 28 = -64", "account 2 = 1", "account 3 = 1", "moveTo 600 = 576",
            "account 2 = 10", "account 3 = 1", "moveTo -600 = -1152", "account 2 = 10", "account 3 = 19",
            "count 10 = -576");
    }

    private static void accountOfTicksWithoutSigns() {
        DUE.sentence("4 the ticks by which the motor moved in all (without signs)");
        DUE.run("moveTo 40 = 0", "account 4 = 40", "moveTo -40 = 0", "account 4 = 120", "moveTo -40 = 0",
            "account 4 = 120", "setLoad -20000 91", "moveTo 0 = 64", "account 4 = 120", "count 9 = -24", STRONG,
            "moveTo 4 = 0", "count 9 = 0", "account 4 = 140", "count 7 = -60");
    }

    private static void accountOfFlags() {
        DUE.sentence("5 how often the flag was reached");
        DUE.run("setFlag 10 20", "account 5 = 0", "home 0 = -2", "account 5 = 1", "check 0 = 0", "account 5 = 2",
            "moveTo 15 = 0", "account 5 = 2", "home 1 = 2", "account 5 = 3", "check 1 = 0", "account 5 = 4",
            "setNumber 1 0", "setLoad -20000 1", "home 0 = NONE", "check 1 = NONE", "account 5 = 4", "undo = 5",
            "undo = 4", "undo = 3", "account 5 = 3");
    }

    private static void accountRange() {
        DUE.sentence("account: what 0 to 5; INVALID_ARGUMENT if what is out of range");
        DUE.run("account -1 = INVALID", "account 0 = 0", "account 5 = 0", "account 6 = INVALID",
            "account MIN = INVALID", "account MAX = INVALID");
    }

    private static void farthestMove() {
        DUE.sentence("(c - counter) / s microsteps: the most that there are, from 99999 to -20000");
        String[] lines = new String[16];
        lines[0] = "setNumber 0 1";
        for (int i = 1; i <= 10; i++) {
            lines[i] = "correct -9999 = " + 9999 * i;
        }
        lines[11] = "correct -9 = 99999";
        lines[12] = "moveTo -20000 = 0";
        lines[13] = "count 7 = -119999";
        lines[14] = "account 0 = 119999";
        lines[15] = "account 4 = 119999";
        DUE.run(lines);
        lines[13] = "moveTo 20000 = 0";
        lines[14] = "account 0 = 159999";
        lines[15] = "count 7 = -79999";
        DUE.run(lines);
    }
}
