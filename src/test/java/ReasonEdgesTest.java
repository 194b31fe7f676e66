/** Each sentence of the document that names a boundary of what would be: promises 24 to 27. */
public final class ReasonEdgesTest {
    private static final Due DUE = new Due("ReasonEdgesTest");

    public static void main(String[] args) {
        whyRange();
        whyZero();
        whyRefused();
        whyByMicrosteps();
        whyByALag();
        whyByLostTicks();
        whyByTheShift();
        whyByBacklash();
        whyTheFirstOfThese();
        whyRefusedIsTheFirst();
        lossesPlaces();
        lossesSpeeds();
        lossesOfARefusedMove();
        lossesErrorsInTheirOrder();
        lossesAtTheEdgeOfTheTorque();
        lossesByHowMuchMore();
        lossesOfNoMicrostep();
        fastestPlaces();
        fastestOfARefusedMove();
        fastestOfAThousand();
        fastestOfFifty();
        fastestIsNone();
        fastestOfMultiplesOfFifty();
        fastestOfNoMicrostep();
        fastestByTheLoadsOnTheWay();
        fastestWithALag();
        fastestWhateverTheSpeedIs();
        counterRange();
        counterBothWays();
        whyChangesNothing();
        DUE.end();
    }

    private static void whyRange() {
        DUE.sentence("why: place -20000 to 20000; INVALID_ARGUMENT if place is out of range");
        DUE.run("why -20001 = INVALID", "why 20001 = INVALID", "why MIN = INVALID", "why MAX = INVALID",
            "why -20000 = 0", "why 20000 = 0", "setNumber 0 1", "why -19999 = 0", "why 19999 = 0");
        DUE.run("setComb 0 1", "why 20001 = INVALID", "why -20001 = INVALID", "setComb 0 -1", "why 20001 = INVALID");
    }

    private static void whyZero() {
        DUE.sentence("Returns 0 if the lag would be 0, and the counter, the motor and the table would be at "
            + "this place plus the error there");
        DUE.run("why 0 = 0", "why 4 = 0", "why -4 = 0", "setComb 0 3", "why 1 = 0", "why 5 = 0", "why -3 = 0",
            "why 0 = 2", "why 4 = 2", "moveTo 5", "why 5 = 0");
        DUE.run("setLoad 8 91", "why 8 = 0", "why 12 = 3", "setLoad 8 90", "why 12 = 0");
    }

    private static void whyRefused() {
        DUE.sentence("1 the move is refused: c less than -20000 or greater than 20000");
        DUE.run("setNumber 0 1", "setComb 0 5", "why 19995 = 0", "why 19996 = 1", "why 20000 = 1", "why -20000 = 0",
            "setComb 0 -5", "why -19995 = 0", "why -19996 = 1", "why -20000 = 1", "why 20000 = 0");
    }

    private static void whyByMicrosteps() {
        DUE.sentence("2 the counter would not be there, as it goes by microsteps");
        DUE.run("why 1 = 2", "why 2 = 2", "why 3 = 2", "why 4 = 0", "why 5 = 2", "why -1 = 2", "why -3 = 2",
            "why -4 = 0", "setNumber 0 1", "why 1 = 0", "why -1 = 0", "setNumber 0 16", "why 15 = 2", "why 16 = 0",
            "why 17 = 2", "why 31 = 2", "why 32 = 0");
        DUE.run("setComb 0 1", "why 0 = 2", "why 3 = 0", "why 4 = 2");
    }

    private static void whyByALag() {
        DUE.sentence("3 there would be a lag (not 0)");
        DUE.run("setLoad 0 91", "why 4 = 3", "why 28 = 3", "why 32 = 3", "why 60 = 3", "why 64 = 4", "why 68 = 3",
            "setLoad -20000 91", "why -4 = 3", "why -32 = 3", "why -60 = 3", "why -64 = 4", "why -68 = 3",
            "why 0 = 0");
        DUE.run("setLoad 0 91", "moveTo 28", "setLoad 0 90", "why 28 = 3", "why 32 = 0", "why 24 = 0");
    }

    private static void whyByLostTicks() {
        DUE.sentence("4 the motor would not be there, and there would be lost ticks (not 0)");
        DUE.run("setLoad 0 91", "moveTo 64", "count 10 = 64", "count 9 = 0", "setLoad 0 90", "why 64 = 4",
            "why 0 = 4", "why 100 = 4", "correct 1 = 63", "setNumber 0 1", "why 0 = 4", "correct 63 = 0",
            "why 0 = 0", "why 100 = 0", "correct 1 = -1", "why 0 = 4");
        DUE.run("setLoad -20000 91", "moveTo -64", "count 10 = -64", "setLoad -20000 0", "why 0 = 4",
            "correct -64 = 0", "why 0 = 0");
    }

    private static void whyByTheShift() {
        DUE.sentence("5 the motor would not be there (by the shift alone)");
        DUE.run("correct 4 = -4", "why 0 = 5", "why -4 = 5", "why 40 = 5", "correct -4 = 0", "why 0 = 0",
            "why 40 = 0", "correct -1 = 1", "setNumber 0 1", "why 0 = 5", "why 1 = 5");
    }

    private static void whyByBacklash() {
        DUE.sentence("6 the table would not be there (by backlash)");
        DUE.run("setNumber 4 1", "why 4 = 6", "why -4 = 0", "why 0 = 0", "moveTo -4", "why -4 = 0", "why 0 = 6");
        DUE.run("setNumber 4 50", "why 4 = 6", "why 20000 = 6", "why -20000 = 0");
        DUE.run("setNumber 4 4", "moveTo 8", "count 8 = 4", "why 8 = 6", "why 4 = 0", "why 0 = 0", "why 12 = 6",
            "setNumber 4 0", "why 8 = 6", "why 12 = 0");
    }

    private static void whyTheFirstOfThese() {
        DUE.sentence("otherwise the first of these");
        DUE.run("setLoad 0 91", "setNumber 4 9", "why 5 = 2", "why 60 = 3", "why 64 = 4", "setLoad 0 90", "correct 4",
            "why 41 = 2", "why 40 = 5", "correct -4", "why 40 = 6", "correct 3", "why 5 = 5", "why 4 = 2",
            "setLoad 0 91", "why 57 = 3", "why 58 = 2", "why 61 = 4");
    }

    private static void whyRefusedIsTheFirst() {
        DUE.sentence("otherwise the first of these: 1 the move is refused");
        DUE.run("setLoad 0 91", "setNumber 4 9", "moveTo 28", "correct 3", "setComb 0 1", "why 20000 = 1",
            "setComb 0 3", "why 20000 = 1", "setComb 0 0", "why 20000 = 2");
    }

    private static void lossesPlaces() {
        DUE.sentence("losses: place -20000 to 20000; INVALID_ARGUMENT if an argument is out of range");
        DUE.run("losses -20001 100 = INVALID", "losses 20001 100 = INVALID", "losses MIN 100 = INVALID",
            "losses MAX 100 = INVALID", "losses -20000 100 = 0", "losses 20000 100 = 0", "setNumber 0 1",
            "setLoad -20000 200", "losses -20000 100 = -20032", "losses 20000 100 = 20032",
            "losses 19999 100 = 19968", "losses -19999 100 = -19968");
    }

    private static void lossesSpeeds() {
        DUE.sentence("losses: speed 1 to 1000; INVALID_ARGUMENT if an argument is out of range");
        DUE.run("setLoad 0 100", "losses 64 0 = INVALID", "losses 64 -1 = INVALID", "losses 64 1001 = INVALID",
            "losses 64 MIN = INVALID", "losses 64 MAX = INVALID", "losses 64 1 = 0", "losses 64 9 = 0",
            "losses 64 10 = 64", "losses 64 1000 = 64", "losses 64 999 = 64", "count 2 = 100");
    }

    private static void lossesOfARefusedMove() {
        DUE.sentence("losses: NONE if the move is refused");
        DUE.run("setNumber 0 1", "setComb 0 5", "losses 19995 100 = 0", "losses 19996 100 = NONE",
            "losses 20000 1000 = NONE", "setComb 0 -5", "losses -19995 100 = 0", "losses -19996 100 = NONE");
    }

    private static void lossesErrorsInTheirOrder() {
        DUE.sentence("losses: INVALID_ARGUMENT; NONE only if no error code applies");
        DUE.run("setComb 0 5", "losses 20000 0 = INVALID", "losses 20000 1001 = INVALID",
            "losses 20001 100 = INVALID", "losses 20001 0 = INVALID", "losses 20000 1 = NONE");
    }

    private static void lossesAtTheEdgeOfTheTorque() {
        DUE.sentence("losses at a speed: if the torque (of this speed) is at least the load");
        DUE.run("setLoad 0 50", "losses 160 499 = 0", "losses 160 500 = 0", "losses 160 509 = 0",
            "losses 160 510 = 192", "losses -160 509 = 0", "losses -160 510 = -192", "setNumber 2 1000",
            "losses 160 500 = 0", "moveTo 0", "setNumber 2 1", "losses 160 510 = 192");
        DUE.run("setNumber 1 0", "setNumber 3 100", "losses 160 1000 = 0", "setLoad 0 1", "losses 160 1 = 192");
    }

    private static void lossesByHowMuchMore() {
        DUE.sentence("Returns by how much the lost ticks would become greater");
        DUE.run("setLoad 0 91", "losses 28 100 = 0", "losses 32 100 = 64", "losses 92 100 = 64",
            "losses 96 100 = 128", "moveTo 32 = 64", "losses 32 100 = 0", "losses 92 100 = 0", "losses 96 100 = 64",
            "losses 28 100 = -64", "losses -28 100 = -64", "losses -32 100 = -128", "count 10 = 64");
    }

    private static void lossesOfNoMicrostep() {
        DUE.sentence("(c - counter) / s microsteps: of none, nothing is lost");
        DUE.run("setLoad 0 200", "losses 0 1000 = 0", "losses 3 1000 = 0", "losses -3 1000 = 0");
    }

    private static void fastestPlaces() {
        DUE.sentence("fastest: place -20000 to 20000; INVALID_ARGUMENT if place is out of range");
        DUE.run("fastest -20001 = INVALID", "fastest 20001 = INVALID", "fastest MIN = INVALID",
            "fastest MAX = INVALID", "fastest -20000 = 1000", "fastest 20000 = 1000", "fastest 19999 = 1000",
            "fastest -19999 = 1000");
        DUE.run("setComb 0 1", "fastest 20001 = INVALID", "setComb 0 -1", "fastest 20001 = INVALID",
            "fastest -20001 = INVALID");
    }

    private static void fastestOfARefusedMove() {
        DUE.sentence("fastest: NONE if .. the move is refused");
        DUE.run("setNumber 0 1", "setComb 0 5", "fastest 19995 = 1000", "fastest 19996 = NONE",
            "fastest 20000 = NONE", "setComb 0 -5", "fastest -19995 = 1000", "fastest -19996 = NONE");
    }

    private static void fastestOfAThousand() {
        DUE.sentence("of all multiples of 50 from 50 to 1000: 1000 is one of them");
        DUE.run("setLoad 0 0", "fastest 40 = 1000", "setLoad 0 1", "fastest 40 = 950", "setNumber 1 101",
            "fastest 40 = 1000", "setLoad 0 2", "fastest 40 = 950", "setNumber 3 0", "fastest 40 = 1000",
            "setLoad 0 101", "fastest 40 = 1000", "setLoad 0 102", "fastest 40 = NONE");
        DUE.run("setNumber 2 1", "fastest 40 = 1000", "setNumber 2 1000", "fastest 40 = 1000", "count 2 = 1000");
    }

    private static void fastestOfFifty() {
        DUE.sentence("of all multiples of 50 from 50 to 1000: 50 is one of them");
        DUE.run("setLoad 0 90", "fastest 40 = 100", "setLoad 0 91", "fastest 40 = 50", "setLoad 0 95",
            "fastest 40 = 50", "setLoad 0 96", "fastest 40 = NONE", "losses 64 49 = 0", "losses 64 50 = 64");
        DUE.run("setNumber 3 100", "setLoad 0 50", "fastest 40 = 50", "setLoad 0 51", "fastest 40 = NONE",
            "setLoad 0 1", "fastest 40 = 50", "setNumber 1 151", "fastest 40 = 150", "setNumber 1 150",
            "fastest 40 = 100");
    }

    private static void fastestIsNone() {
        DUE.sentence("fastest: NONE if there is none");
        DUE.run("setNumber 1 0", "fastest 40 = 1000", "setLoad 0 1", "fastest 40 = NONE", "fastest -40 = NONE",
            "fastest 3 = 1000", "setNumber 1 200", "setLoad 0 200", "fastest 40 = NONE", "setNumber 3 1",
            "fastest 40 = 50", "setNumber 3 2", "fastest 40 = NONE");
    }

    private static void fastestOfMultiplesOfFifty() {
        DUE.sentence("the speed, of all multiples of 50 from 50 to 1000");
        for (int speed = 50; speed < 1000; speed += 50) {
            int torque = 100 - speed / 10;
            DUE.run("setLoad 0 " + torque, "fastest 40 = " + speed, "setLoad 0 " + (torque - 4),
                "fastest 40 = " + speed, "setLoad 0 " + (torque - 5), "fastest 40 = " + (speed + 50),
                "losses 64 " + speed + " = 0");
        }
    }

    private static void fastestOfNoMicrostep() {
        DUE.sentence("a move would not stall: of no microstep, it does not at all");
        DUE.run("setLoad -20000 200", "fastest 0 = 1000", "fastest 3 = 1000", "fastest -3 = 1000", "fastest 4 = NONE",
            "fastest -4 = NONE");
    }

    private static void fastestByTheLoadsOnTheWay() {
        DUE.sentence("a move would not stall: by the load at each place of the table where a microstep begins");
        DUE.run("setLoad 40 80", "setLoad 60 20", "fastest 40 = 1000", "fastest 44 = 200", "fastest 400 = 200",
            "setLoad 41 0", "setLoad 40 -1", "setLoad 42 80", "fastest 44 = 1000", "fastest 48 = 200",
            "setLoad 43 20", "setLoad 42 80", "fastest 48 = 800");
        DUE.run("setLoad -60 70", "setLoad -40 0", "fastest -44 = 1000", "fastest -48 = 300", "fastest -400 = 300");
        DUE.run("setNumber 4 20", "setLoad 40 80", "fastest 60 = 1000", "fastest 64 = 200");
        DUE.run("setLoad 0 30", "setLoad 4 40", "setLoad 8 20", "fastest 4 = 700", "fastest 8 = 600",
            "fastest 12 = 600", "setLoad 8 60", "fastest 8 = 600", "fastest 12 = 400");
    }

    private static void fastestWithALag() {
        DUE.sentence("a move would not stall: the motor moves by the lag that there is");
        DUE.run("setLoad 0 91", "moveTo 28", "setLoad 0 0", "setLoad 30 70", "fastest 32 = 1000", "fastest 36 = 300",
            "fastest 24 = 1000", "setLoad 0 91", "moveTo 32", "count 9 = -32", "setLoad 0 0", "setLoad -20000 60",
            "fastest 36 = 1000", "fastest 40 = 400");
    }

    private static void fastestWhateverTheSpeedIs() {
        DUE.sentence("the greatest speed with which a move would not stall: whatever speed there is now");
        DUE.run("setNumber 1 200", "setNumber 3 100", "setNumber 2 150", "setLoad 4 60", "setLoad 8 120",
            "fastest 8 = 100", "fastest 40 = 50", "setNumber 2 1000", "fastest 40 = 50", "setNumber 2 1",
            "fastest 40 = 50", "fastest 8 = 100", "count 2 = 1");
        DUE.run("setNumber 1 200", "setNumber 3 1", "setNumber 2 1000", "setLoad 4 195", "setLoad 8 200",
            "fastest 8 = 550", "fastest 40 = 50", "count 1 = 200", "count 2 = 1000", "count 3 = 1");
    }

    private static void counterRange() {
        DUE.sentence("counter: way 0 or 1; INVALID_ARGUMENT if way is out of range");
        DUE.run("counter -1 = INVALID", "counter 0 = 0", "counter 1 = 0", "counter 2 = INVALID",
            "counter MIN = INVALID", "counter MAX = INVALID");
    }

    private static void counterBothWays() {
        DUE.sentence("the counter, found in one of two ways, which agree");
        DUE.run("setLoad 20 200", "setNumber 4 7", "moveTo 77 = 64", "counter 0 = 76", "counter 1 = 76",
            "correct 13 = 63", "counter 0 = 63", "counter 1 = 63", "moveTo -300", "counter 0 = -297",
            "counter 1 = -297", "setLoad 20 0", "setFlag 9 10", "home 0 = 326", "counter 0 = 9", "counter 1 = 9",
            "undo", "counter 0 = -297", "counter 1 = -297");
    }

    private static void whyChangesNothing() {
        DUE.sentence("reasons, and what would be (nothing changes)");
        String[] before = {"setNumber 4 5", "setLoad 10 91", "addCommand 9 9", "moveTo 40", "keep 0",
            "setComb 19000 0", "setComb 20000 1"};
        String[] calls = {"why 80", "why -80", "why 20000", "losses 80 1000", "losses -80 1", "losses 20000 1",
            "fastest 80",
            "fastest -80", "fastest 20000", "counter 0", "counter 1"};
        int[] dues = {4, 3, 1, 64, 0, Lines.number("NONE"), 50, 50, Lines.number("NONE"), 40, 40};
        for (int i = 0; i < calls.length; i++) {
            DUE.onlyLooks(before, calls[i], dues[i]);
        }
    }
}
