/** Each sentence of 'Moves and commands' that names a boundary: promises 9 to 11, 22. */
public final class MoveEdgesTest {
    private static final Due DUE = new Due("MoveEdgesTest");

    public static void main(String[] args) {
        moveToRange();
        refusedAboveTheGreatest();
        refusedBelowTheLeast();
        errorThatBringsItBack();
        refusedChangesNothing();
        outOfRangeComesBeforeRefused();
        microstepsRoundedTowardZero();
        microstepsFromBetween();
        noMicrostep();
        moveToTellsTheLostTicks();
        addCommandPlaces();
        addCommandPriorities();
        atMostEightCommands();
        outOfRangeComesBeforeFull();
        greaterPriorityComesFirst();
        samePriorityInTheOrderAdded();
        runRange();
        runWithoutCommands();
        runOutOfRangeComesFirst();
        runOfMoreThanThereAre();
        runOfAllEight();
        refusedCommandIsTaken();
        refusedCommandAtTheEdge();
        runSavesOneState();
        commandIsTakenFromTheOthers();
        commandRange();
        commandBeyondTheLast();
        commandErrorsInTheirOrder();
        DUE.end();
    }

    private static void moveToRange() {
        DUE.sentence("moveTo: place -20000 to 20000; INVALID_ARGUMENT if place is out of range");
        DUE.run("moveTo -20001 = INVALID", "moveTo 20001 = INVALID", "moveTo MIN = INVALID", "moveTo MAX = INVALID",
            "count 19 = 0", "count 6 = 0", "moveTo -20000 = 0", "count 6 = -20000", "moveTo 20000 = 0",
            "count 6 = 20000", "setNumber 0 1", "moveTo 19999 = 0", "count 6 = 19999", "moveTo -19999 = 0",
            "count 6 = -19999");
        DUE.refused(new String[] {"moveTo 40"}, "moveTo 20001", "INVALID");
        DUE.refused(new String[] {"moveTo 40"}, "moveTo -20001", "INVALID");
    }

    private static void refusedAboveTheGreatest() {
        DUE.sentence("It is refused if c is .. greater than 20000");
        DUE.run("setNumber 0 1", "setComb 0 5", "moveTo 19994 = 0", "count 6 = 19999", "moveTo 19995 = 0",
            "count 6 = 20000", "moveTo 19996 = STATE", "moveTo 20000 = STATE", "count 6 = 20000");
        DUE.run("setComb 0 99", "moveTo 19901 = 0", "count 6 = 20000", "moveTo 19902 = STATE");
        DUE.run("moveTo 20000 = 0", "setComb 0 0", "moveTo 20000 = 0", "setComb 0 1", "moveTo 20000 = STATE");
    }

    private static void refusedBelowTheLeast() {
        DUE.sentence("It is refused if c is less than -20000");
        DUE.run("setNumber 0 1", "setComb 0 -5", "moveTo -19994 = 0", "count 6 = -19999", "moveTo -19995 = 0",
            "count 6 = -20000", "moveTo -19996 = STATE", "moveTo -20000 = STATE", "count 6 = -20000");
        DUE.run("setComb 0 -99", "moveTo -19901 = 0", "count 6 = -20000", "moveTo -19902 = STATE");
        DUE.run("moveTo -20000 = 0", "setComb 0 0", "moveTo -20000 = 0", "setComb 0 -1", "moveTo -20000 = STATE");
    }

    private static void errorThatBringsItBack() {
        DUE.sentence("let c = x plus the error at x: it is c that is refused, not x");
        DUE.run("setNumber 0 1", "setComb 0 -99", "moveTo 20000 = 0", "count 6 = 19901", "setComb 0 99",
            "moveTo -20000 = 0", "count 6 = -19901", "moveTo 20000 = STATE");
        DUE.run("setComb 19999 0", "setComb 20000 1", "moveTo 19999 = 0", "moveTo 20000 = STATE", "setComb 20000 -1",
            "moveTo 20000 = 0");
    }

    private static void refusedChangesNothing() {
        DUE.sentence("ILLEGAL_STATE if the move is refused");
        String[] before = {"setLoad 5 3", "moveTo 40", "correct 3", "addCommand 7 7", "setComb 20000 1"};
        DUE.refused(before, "moveTo 20000", "STATE");
        DUE.refused(new String[] {"setComb -20000 -1"}, "moveTo -20000", "STATE");
    }

    private static void outOfRangeComesBeforeRefused() {
        DUE.sentence("moveTo: INVALID_ARGUMENT, then ILLEGAL_STATE");
        DUE.run("setComb 0 5", "moveTo 20001 = INVALID", "moveTo 20000 = STATE", "setComb 0 -5",
            "moveTo 20001 = INVALID", "moveTo -20001 = INVALID", "moveTo -20000 = STATE");
    }

    private static void microstepsRoundedTowardZero() {
        DUE.sentence("(c - counter) / s microsteps are made (\"/\" is the division rounded toward 0)");
        int[] places = {3, 4, 5, 7, 8, -3, -4, -5, -7, -8};
        int[] counters = {0, 4, 4, 4, 8, 0, -4, -4, -4, -8};
        for (int i = 0; i < places.length; i++) {
            DUE.run("moveTo " + places[i] + " = 0", "count 6 = " + counters[i], "count 7 = " + counters[i],
                "account 0 = " + Math.abs(counters[i]) / 4);
        }
        DUE.run("setNumber 0 16", "moveTo 15 = 0", "count 6 = 0", "moveTo -15 = 0", "count 6 = 0", "moveTo 16 = 0",
            "count 6 = 16", "moveTo 1 = 0", "count 6 = 16", "moveTo 0 = 0", "count 6 = 0", "moveTo -16 = 0",
            "count 6 = -16");
        DUE.run("setNumber 0 1", "moveTo 1 = 0", "count 6 = 1", "moveTo -1 = 0", "count 6 = -1");
    }

    private static void microstepsFromBetween() {
        DUE.sentence("(c - counter) / s: the difference is rounded, wherever the counter stands");
        DUE.run("setNumber 0 1", "moveTo 2 = 0", "setNumber 0 4", "moveTo 5 = 0", "count 6 = 2", "moveTo 6 = 0",
            "count 6 = 6", "moveTo 3 = 0", "count 6 = 6", "moveTo 2 = 0", "count 6 = 2", "moveTo -1 = 0",
            "count 6 = 2", "moveTo -2 = 0", "count 6 = -2", "moveTo 1 = 0", "count 6 = -2", "moveTo 2 = 0",
            "count 6 = 2");
    }

    private static void noMicrostep() {
        DUE.sentence("Every successful call of .. moveTo() .. saves the state: of no microstep, too");
        DUE.run("moveTo 0 = 0", "count 19 = 1", "account 0 = 0", "moveTo 3 = 0", "count 19 = 2", "account 0 = 0");
    }

    private static void moveToTellsTheLostTicks() {
        DUE.sentence("Returns by how much the lost ticks became greater (below 0: less)");
        DUE.run("setNumber 1 0", "setLoad 0 1", "moveTo 28 = 0", "moveTo 32 = 64", "moveTo 28 = -64",
            "moveTo 32 = 64", "moveTo 92 = 0", "moveTo 96 = 64", "count 10 = 128", "moveTo 160 = 64",
            "count 10 = 192");
    }

    private static void addCommandPlaces() {
        DUE.sentence("addCommand: place -20000 to 20000; INVALID_ARGUMENT if an argument is out of range");
        DUE.run("addCommand -20001 0 = INVALID", "addCommand 20001 0 = INVALID", "addCommand MIN 0 = INVALID",
            "addCommand MAX 0 = INVALID", "count 17 = 0", "count 19 = 0", "addCommand -20000 0 = 1",
            "addCommand 20000 0 = 2", "addCommand -19999 0 = 3", "addCommand 19999 0 = 4", "command 0 0 = -20000",
            "command 1 0 = 20000", "command 2 0 = -19999", "command 3 0 = 19999");
        DUE.refused(new String[] {"addCommand 4 4"}, "addCommand 20001 9", "INVALID");
    }

    private static void addCommandPriorities() {
        DUE.sentence("addCommand: priority 0 to 9; INVALID_ARGUMENT if an argument is out of range");
        DUE.run("addCommand 5 -1 = INVALID", "addCommand 5 10 = INVALID", "addCommand 5 MIN = INVALID",
            "addCommand 5 MAX = INVALID", "count 17 = 0", "count 19 = 0", "addCommand 5 0 = 1", "addCommand 6 1 = 2",
            "addCommand 7 8 = 3", "addCommand 8 9 = 4", "command 0 1 = 9", "command 1 1 = 8", "command 2 1 = 1",
            "command 3 1 = 0", "command 0 0 = 8", "command 3 0 = 5");
        DUE.refused(new String[] {"addCommand 4 4"}, "addCommand 5 10", "INVALID");
    }

    private static void atMostEightCommands() {
        DUE.sentence("There are at most 8 commands; CAPACITY_EXCEEDED if there are 8 commands");
        DUE.run("addCommand 1 5 = 1", "addCommand 2 5 = 2", "addCommand 3 5 = 3", "addCommand 4 5 = 4",
            "addCommand 5 5 = 5", "addCommand 6 5 = 6", "addCommand 7 5 = 7", "addCommand 8 5 = 8",
            "addCommand 9 5 = FULL", "addCommand 1 9 = FULL", "addCommand 1 0 = FULL", "count 17 = 8",
            "command 7 0 = 8", "command 8 0 = NONE", "run 1 = 7", "addCommand 9 9 = 8", "addCommand 10 9 = FULL",
            "command 0 0 = 9", "command 7 0 = 8");
        DUE.refused(eight(), "addCommand 9 9", "FULL");
        DUE.refused(eight(), "addCommand 9 0", "FULL");
    }

    private static String[] eight() {
        String[] lines = new String[8];
        for (int i = 0; i < 8; i++) {
            lines[i] = "addCommand " + 4 * i + " " + i % 3;
        }
        return lines;
    }

    private static void outOfRangeComesBeforeFull() {
        DUE.sentence("addCommand: INVALID_ARGUMENT, then CAPACITY_EXCEEDED");
        DUE.refused(eight(), "addCommand 20001 9", "INVALID");
        DUE.refused(eight(), "addCommand -20001 9", "INVALID");
        DUE.refused(eight(), "addCommand 9 10", "INVALID");
        DUE.refused(eight(), "addCommand 9 -1", "INVALID");
    }

    private static void greaterPriorityComesFirst() {
        DUE.sentence("those with a greater priority come first");
        DUE.run("addCommand 1 4", "addCommand 2 5", "command 0 0 = 2", "addCommand 3 3", "command 2 0 = 3",
            "addCommand 4 9", "command 0 0 = 4", "addCommand 5 0", "command 4 0 = 5", "command 1 0 = 2",
            "command 2 0 = 1", "command 3 0 = 3");
        DUE.run("addCommand 40 0", "addCommand 80 1", "addCommand 120 9", "run 1 = 2", "count 6 = 120", "run 1 = 1",
            "count 6 = 80", "run 1 = 0", "count 6 = 40");
    }

    private static void samePriorityInTheOrderAdded() {
        DUE.sentence("of several with the same one that which was added first");
        DUE.run("addCommand 7 5", "addCommand 3 5", "addCommand 9 5", "command 0 0 = 7", "command 1 0 = 3",
            "command 2 0 = 9", "addCommand 1 6", "addCommand 2 6", "addCommand 8 5", "addCommand 4 4",
            "addCommand 6 4", "command 0 0 = 1", "command 1 0 = 2", "command 2 0 = 7", "command 3 0 = 3",
            "command 4 0 = 9", "command 5 0 = 8", "command 6 0 = 4", "command 7 0 = 6");
        DUE.run("addCommand 7 9", "addCommand 7 9", "count 17 = 2", "command 1 0 = 7");
        DUE.run("addCommand 7 0", "addCommand 3 0", "command 0 0 = 7", "command 1 0 = 3");
    }

    private static void runRange() {
        DUE.sentence("run: count 1 to 8; INVALID_ARGUMENT if count is out of range");
        DUE.run("addCommand 40 1", "addCommand 80 1", "run 0 = INVALID", "run 9 = INVALID", "run -1 = INVALID",
            "run MIN = INVALID", "run MAX = INVALID", "count 17 = 2", "count 6 = 0", "run 1 = 1", "count 6 = 40",
            "run 8 = 0", "count 6 = 80");
        DUE.refused(eight(), "run 0", "INVALID");
        DUE.refused(eight(), "run 9", "INVALID");
    }

    private static void runWithoutCommands() {
        DUE.sentence("ILLEGAL_STATE if there are no commands");
        DUE.run("run 1 = STATE", "run 8 = STATE", "count 19 = 0", "addCommand 40 1", "run 1 = 0", "run 1 = STATE",
            "run 8 = STATE", "count 19 = 2");
        DUE.refused(new String[] {"moveTo 40", "setComb 5 5"}, "run 1", "STATE");
    }

    private static void runOutOfRangeComesFirst() {
        DUE.sentence("run: INVALID_ARGUMENT, then ILLEGAL_STATE");
        DUE.refused(new String[] {"moveTo 40"}, "run 0", "INVALID");
        DUE.refused(new String[] {"moveTo 40"}, "run 9", "INVALID");
    }

    private static void runOfMoreThanThereAre() {
        DUE.sentence("count: the greatest number of commands");
        DUE.run("addCommand 40 1", "addCommand 80 1", "addCommand 120 1", "run 2 = 1", "count 6 = 80", "run 2 = 0",
            "count 6 = 120", "account 0 = 30", "run 2 = STATE");
        DUE.run("addCommand 40 1", "addCommand 80 1", "run 2 = 0", "count 6 = 80");
        DUE.run("addCommand 40 1", "run 8 = 0", "count 6 = 40", "account 0 = 10");
    }

    private static void runOfAllEight() {
        DUE.sentence("count: 1 to 8, the greatest number of commands: all that there may be");
        String[] lines = new String[12];
        System.arraycopy(eight(), 0, lines, 0, 8);
        // by priority: 8, 20, then 4, 16, 28, then 0, 12, 24
        lines[8] = "run 8 = 0";
        lines[9] = "count 6 = 24";
        lines[10] = "account 0 = " + (2 + 3 + 4 + 3 + 3 + 7 + 3 + 3);
        lines[11] = "count 17 = 0";
        DUE.run(lines);
        lines[8] = "run 7 = 1";
        lines[9] = "count 6 = 12";
        lines[10] = "command 0 0 = 24";
        lines[11] = "count 17 = 1";
        DUE.run(lines);
    }

    private static void refusedCommandIsTaken() {
        DUE.sentence("it is taken from the others ..; if this is refused, nothing else happens");
        DUE.run("setComb 19000 0", "setComb 20000 1", "moveTo 40", "addCommand 20000 9", "addCommand 80 8",
            "run 1 = 1", "count 6 = 40", "account 0 = 10", "count 17 = 1", "command 0 0 = 80", "count 19 = 6",
            "run 1 = 0", "count 6 = 80");
        DUE.run("setComb 19000 0", "setComb 20000 1", "addCommand 80 9", "addCommand 20000 8", "addCommand 40 7",
            "run 2 = 1", "count 6 = 80", "run 1 = 0", "count 6 = 40");
        DUE.run("setComb 19000 0", "setComb 20000 1", "addCommand 20000 8", "addCommand 40 7", "run 2 = 0",
            "count 6 = 40", "undo = 4", "count 17 = 2", "count 6 = 0");
        DUE.run("setComb 0 -1", "addCommand -20000 8", "run 1 = 0", "count 6 = 0", "account 0 = 0", "undo = 2",
            "count 17 = 1");
    }

    private static void refusedCommandAtTheEdge() {
        DUE.sentence("refused if c is less than -20000 or greater than 20000: of a command, when it is carried out");
        DUE.run("setNumber 0 1", "setComb 0 5", "addCommand 19996 9", "addCommand 19995 8", "run 1 = 1",
            "count 6 = 0", "run 1 = 0", "count 6 = 20000");
        DUE.run("setNumber 0 1", "setComb 0 -5", "addCommand -19996 9", "addCommand -19995 8", "run 1 = 1",
            "count 6 = 0", "run 1 = 0", "count 6 = -20000");
        DUE.run("setComb 0 5", "addCommand 20000 9 = 1", "setComb 0 0", "run 1 = 0", "count 6 = 20000");
    }

    private static void runSavesOneState() {
        DUE.sentence("Every successful call of .. run() .. saves the state that preceded it");
        DUE.run("addCommand 40 1", "addCommand 80 1", "addCommand 120 1", "count 19 = 3", "run 3 = 0", "count 19 = 4",
            "undo = 3", "count 17 = 3", "count 6 = 0", "command 0 0 = 40", "command 2 0 = 120");
    }

    private static void commandIsTakenFromTheOthers() {
        DUE.sentence("When a command is carried out, it is taken from the others");
        DUE.run("addCommand 40 3", "addCommand 80 7", "addCommand 120 5", "addCommand 160 0", "run 1 = 3",
            "count 6 = 80", "command 0 0 = 120", "command 0 1 = 5", "command 1 0 = 40", "command 1 1 = 3",
            "command 2 0 = 160", "command 2 1 = 0", "command 3 0 = NONE", "addCommand 200 4 = 4",
            "command 1 0 = 200", "command 1 1 = 4", "run 2 = 2", "count 6 = 200", "command 0 0 = 40",
            "command 0 1 = 3", "command 1 1 = 0", "undo = 5", "command 0 1 = 5", "command 3 1 = 0");
        DUE.run("addCommand 40 3", "keep 0", "addCommand 80 7", "command 0 1 = 7", "back 0", "command 0 0 = 40",
            "command 0 1 = 3", "undo", "command 0 0 = 80", "command 0 1 = 7", "command 1 1 = 3");
    }

    private static void commandRange() {
        DUE.sentence("command: INVALID_ARGUMENT if index is negative or what is out of range");
        DUE.run("addCommand 7 5", "command -1 0 = INVALID", "command MIN 0 = INVALID", "command 0 -1 = INVALID",
            "command 0 2 = INVALID", "command 0 MIN = INVALID", "command 0 MAX = INVALID", "command 0 0 = 7",
            "command 0 1 = 5");
    }

    private static void commandBeyondTheLast() {
        DUE.sentence("command: NONE if there are not so many");
        DUE.run("command 0 0 = NONE", "command 0 1 = NONE", "addCommand 7 5", "command 0 0 = 7", "command 1 0 = NONE",
            "command 1 1 = NONE", "addCommand 8 5", "command 1 0 = 8", "command 2 0 = NONE", "command 7 0 = NONE",
            "command 8 0 = NONE", "command 9 1 = NONE", "command MAX 0 = NONE");
        String[] lines = new String[12];
        System.arraycopy(eight(), 0, lines, 0, 8);
        lines[8] = "command 7 0 = 24";
        lines[9] = "command 7 1 = 0";
        lines[10] = "command 8 0 = NONE";
        lines[11] = "command 8 1 = NONE";
        DUE.run(lines);
    }

    private static void commandErrorsInTheirOrder() {
        DUE.sentence("command: INVALID_ARGUMENT; NONE is returned only if no error code applies");
        DUE.run("command 0 2 = INVALID", "command 0 -1 = INVALID", "command MAX 2 = INVALID",
            "command -1 0 = INVALID", "command -1 2 = INVALID");
    }
}
