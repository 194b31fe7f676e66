/** Promises 9 to 14: moves. */
public final class MovesTest {
    private static final int INVALID = -1000001;
    private static final int STATE = -1000002;
    private static final int FULL = -1000003;
    private static final int NONE = -1000009;

    private static final Due DUE = new Due("MovesTest");

    public static void main(String[] args) {
        promise9MoveTo();
        promise9RoundsTowardZero();
        promise9Refuses();
        promise9StallsAndSlipsUp();
        promise9StallsAndSlipsDown();
        promise9SlipsAtTheEdge();
        promise9GoesOnWithALag();
        promise9TakesTheLoadAtTheTable();
        promise9StopsWhereTheLoadBegins();
        promise9LoadsOnTheOtherSideOfZero();
        promise9TableAgainstTheDirection();
        promise9Backlash();
        promise9BacklashThatChanges();
        promise10AddCommand();
        promise11Run();
        promise11TakesPriorities();
        promise11RunWithARefusal();
        promise12Home();
        promise12HomeTwentyThousand();
        promise12HomeFromWithin();
        promise13Check();
        promise13FindsLostTicks();
        promise14Correct();
        DUE.end();
    }

    private static void state(String when, FeedAxis x, int counter, int motor, int table, int lag, int lost) {
        DUE.is(when + ": counter", x.count(6), counter);
        DUE.is(when + ": motor", x.count(7), motor);
        DUE.is(when + ": table", x.count(8), table);
        DUE.is(when + ": lag", x.count(9), lag);
        DUE.is(when + ": lost ticks", x.count(10), lost);
        DUE.is(when + ": the parts together", x.counter(1), counter);
    }

    private static void accounts(String when, FeedAxis x, int... due) {
        for (int i = 0; i < due.length; i++) {
            DUE.is(when + ": account(" + i + ")", x.account(i), due[i]);
        }
    }

    private static void promise9MoveTo() {
        FeedAxis x = new FeedAxis();
        DUE.is("moveTo(-20001)", x.moveTo(-20001), INVALID);
        DUE.is("moveTo(20001)", x.moveTo(20001), INVALID);
        DUE.is("no state saved", x.count(19), 0);
        DUE.is("moveTo(-20000)", x.moveTo(-20000), 0);
        state("at -20000", x, -20000, -20000, -20000, 0, 0);
        DUE.is("moveTo(20000)", x.moveTo(20000), 0);
        state("at 20000", x, 20000, 20000, 20000, 0, 0);
        accounts("at 20000", x, 15000, 0, 0, 0, 60000, 0);
        DUE.is("moveTo(20000) again", x.moveTo(20000), 0);
        accounts("at 20000 again", x, 15000, 0, 0, 0, 60000, 0);
        DUE.is("a state saved by each, with no microstep too", x.count(19), 3);
        x.undo();
        x.undo();
        state("after undo()", x, -20000, -20000, -20000, 0, 0);
    }

    private static void promise9RoundsTowardZero() {
        FeedAxis x = new FeedAxis();
        x.setNumber(0, 8);
        x.moveTo(7);
        state("7 with s = 8", x, 0, 0, 0, 0, 0);
        x.moveTo(-7);
        state("-7 with s = 8", x, 0, 0, 0, 0, 0);
        x.moveTo(31);
        state("31 with s = 8", x, 24, 24, 24, 0, 0);
        x.moveTo(9);
        state("9 with s = 8", x, 16, 16, 16, 0, 0);
        x.moveTo(-1);
        state("-1 with s = 8", x, 0, 0, 0, 0, 0);
        x.setComb(100, -3);
        x.moveTo(100);
        state("100 less 3", x, 96, 96, 96, 0, 0);
        x.setNumber(0, 1);
        x.moveTo(100);
        state("100 less 3 with s = 1", x, 97, 97, 97, 0, 0);
    }

    private static void promise9Refuses() {
        FeedAxis x = new FeedAxis();
        x.setComb(20000, 1);
        x.setComb(-20000, -1);
        int saved = x.count(19);
        DUE.is("moveTo(20000)", x.moveTo(20000), STATE);
        DUE.is("moveTo(-20000)", x.moveTo(-20000), STATE);
        DUE.is("moveTo(20001)", x.moveTo(20001), INVALID);
        DUE.is("nothing saved", x.count(19), saved);
        state("refused", x, 0, 0, 0, 0, 0);
        x.setComb(20000, 0);
        x.setComb(-20000, 0);
        DUE.is("moveTo(20000)", x.moveTo(20000), 0);
        DUE.is("moveTo(-20000)", x.moveTo(-20000), 0);
        x.setComb(-20000, 100);
        x.setComb(20000, -99);
        DUE.is("moveTo(-19901) is c = -20000", x.moveTo(-19901), 0);
        state("c = -20000", x, -20000, -20000, -20000, 0, 0);
        DUE.is("moveTo(-19902) is c = -20001", x.moveTo(-19902), STATE);
    }

    /** A torque of 0 and a load of 1 everywhere: every microstep is a stall. */
    private static FeedAxis stuck(int s) {
        FeedAxis x = new FeedAxis();
        x.setNumber(0, s);
        x.setNumber(1, 0);
        x.setLoad(-20000, 1);
        return x;
    }

    private static void promise9StallsAndSlipsUp() {
        FeedAxis x = stuck(8);
        DUE.is("31 ticks", x.moveTo(31), 0);
        state("31", x, 24, 0, 0, 24, 0);
        DUE.is("32 ticks", x.moveTo(32), 64);
        state("32", x, 32, 0, 0, -32, 64);
        accounts("32", x, 4, 4, 1, 0, 0, 0);
        DUE.is("88 ticks", x.moveTo(88), 0);
        state("88", x, 88, 0, 0, 24, 64);
        DUE.is("96 + 64 ticks", x.moveTo(160), 128);
        state("160", x, 160, 0, 0, -32, 192);
        accounts("160", x, 20, 20, 3, 0, 0, 0);
    }

    private static void promise9StallsAndSlipsDown() {
        FeedAxis x = stuck(8);
        DUE.is("-31 ticks", x.moveTo(-31), 0);
        state("-31", x, -24, 0, 0, -24, 0);
        DUE.is("-32 ticks", x.moveTo(-32), -64);
        state("-32", x, -32, 0, 0, 32, -64);
        accounts("-32", x, 4, 4, 0, 1, 0, 0);
        DUE.is("-160 ticks", x.moveTo(-160), -128);
        state("-160", x, -160, 0, 0, 32, -192);
        accounts("-160", x, 20, 20, 0, 3, 0, 0);
    }

    private static void promise9SlipsAtTheEdge() {
        FeedAxis x = stuck(16);
        x.moveTo(32);
        state("a lag of 32 slips", x, 32, 0, 0, -32, 64);
        DUE.is("a lag of -48 slips back", x.moveTo(16), -64);
        state("16", x, 16, 0, 0, 16, 0);
        FeedAxis y = stuck(1);
        y.moveTo(31);
        state("a lag of 31 does not slip", y, 31, 0, 0, 31, 0);
        y.setNumber(0, 16);
        DUE.is("a lag of 47", y.moveTo(47), 64);
        state("47", y, 47, 0, 0, -17, 64);
        y.setNumber(0, 1);
        y.moveTo(33);
        state("a lag of -31 does not slip", y, 33, 0, 0, -31, 64);
        DUE.is("a lag of -32 slips", y.moveTo(32), -64);
        state("32", y, 32, 0, 0, 32, 0);
        DUE.is("a lag of 33 slips, upward", y.moveTo(33), 64);
        state("33", y, 33, 0, 0, -31, 64);
    }

    private static void promise9GoesOnWithALag() {
        FeedAxis x = stuck(4);
        x.moveTo(24);
        x.setNumber(1, 200);
        x.moveTo(24);
        state("no microstep, the lag stays", x, 24, 0, 0, 24, 0);
        x.moveTo(20);
        state("the motor moves by the lag", x, 20, 20, 20, 0, 0);
        accounts("the lag at once", x, 7, 6, 0, 0, 20, 0);
        FeedAxis y = stuck(4);
        y.moveTo(-4);
        y.setNumber(1, 200);
        y.moveTo(0);
        state("the motor moves by 0", y, 0, 0, 0, 0, 0);
        accounts("by 0", y, 2, 1, 0, 0, 0, 0);
        FeedAxis z = stuck(4);
        z.moveTo(36);
        z.setNumber(1, 200);
        z.moveTo(40);
        state("the motor moves back though the counter goes up", z, 40, -24, -24, 0, 64);
        accounts("back", z, 10, 9, 1, 0, 24, 0);
    }

    private static void promise9TakesTheLoadAtTheTable() {
        FeedAxis x = new FeedAxis();
        x.setLoad(40, 90);
        x.setLoad(60, 91);
        DUE.is("a load of the torque does not stall", x.moveTo(59), 0);
        state("56", x, 56, 56, 56, 0, 0);
        DUE.is("over the edge", x.moveTo(63), 0);
        state("60", x, 60, 60, 60, 0, 0);
        DUE.is("then it stalls", x.moveTo(64), 0);
        state("64", x, 64, 60, 60, 4, 0);
        accounts("64", x, 16, 1, 0, 0, 60, 0);
        DUE.is("downward, too", x.moveTo(0), -64);
        state("0", x, 0, 60, 60, 4, -64);
        accounts("0", x, 32, 17, 0, 1, 60, 0);
        FeedAxis y = new FeedAxis();
        y.setNumber(4, 50);
        y.setLoad(1, 200);
        y.moveTo(48);
        state("the motor takes up the backlash", y, 48, 48, 0, 0, 0);
        y.moveTo(56);
        state("it stalls by the table's place", y, 56, 52, 2, 4, 0);
    }

    private static void promise9StopsWhereTheLoadBegins() {
        for (int i = 33; i <= 48; i++) {
            for (int backlash = 0; backlash < 12; backlash += 5) {
                FeedAxis x = new FeedAxis();
                x.setNumber(0, 8);
                x.setNumber(4, backlash);
                x.setLoad(10, 90);
                x.setLoad(20, 0);
                x.setLoad(i, 91);
                x.moveTo(103);
                int stop = (i + backlash + 7) / 8 * 8;
                DUE.is("upward to " + i + ": motor", x.count(7), stop);
                DUE.is("upward to " + i + ": table", x.count(8), stop - backlash);
                DUE.is("upward to " + i + ": stalls", x.account(1), (96 - stop) / 8);
                DUE.is("upward to " + i + ": microsteps", x.account(0), 12);
                FeedAxis y = new FeedAxis();
                y.setNumber(0, 8);
                y.setLoad(-20000, 91);
                y.setLoad(1 - i, 90);
                y.setLoad(-10, 0);
                y.moveTo(-103);
                int low = (i + 7) / 8 * 8;
                DUE.is("downward to " + -i + ": motor", y.count(7), -low);
                DUE.is("downward to " + -i + ": stalls", y.account(1), (96 - low) / 8);
                DUE.is("downward to " + -i + ": ticks", y.account(4), low);
            }
        }
    }

    private static void promise9LoadsOnTheOtherSideOfZero() {
        FeedAxis x = new FeedAxis();
        x.moveTo(-100);
        x.setLoad(-50, 91);
        DUE.is("upward to -50", x.moveTo(0), 64);
        state("upward to -50", x, 0, -48, -48, -16, 64);
        FeedAxis y = new FeedAxis();
        y.moveTo(100);
        y.setLoad(0, 91);
        y.setLoad(50, 0);
        DUE.is("downward to 49", y.moveTo(0), -64);
        state("downward to 49", y, 0, 48, 48, 16, -64);
    }

    private static void promise9TableAgainstTheDirection() {
        FeedAxis x = new FeedAxis();
        x.setNumber(4, 50);
        x.moveTo(100);
        x.setNumber(4, 0);
        x.setLoad(90, 200);
        DUE.is("a microstep downward lifts the table to 96", x.moveTo(0), -128);
        state("then it stalls", x, 0, 96, 96, 32, -128);
        accounts("then it stalls", x, 50, 24, 0, 2, 104, 0);
        FeedAxis y = stuck(4);
        y.moveTo(36);
        y.setNumber(1, 100);
        y.setLoad(-20000, 200);
        y.setLoad(-10, 0);
        DUE.is("a microstep upward brings the table to -24", y.moveTo(100), 64);
        state("then it stalls", y, 100, -24, -24, -4, 128);
        accounts("then it stalls", y, 25, 24, 2, 0, 24, 0);
        FeedAxis z = stuck(4);
        z.moveTo(-36);
        z.setNumber(1, 100);
        z.setLoad(-20000, 0);
        z.setLoad(10, 200);
        DUE.is("a microstep downward brings the table to 24", z.moveTo(-100), -64);
        state("then it stalls", z, -100, 24, 24, 4, -128);
    }

    private static void promise9Backlash() {
        FeedAxis x = new FeedAxis();
        x.setNumber(4, 10);
        x.moveTo(40);
        state("upward", x, 40, 40, 30, 0, 0);
        x.moveTo(32);
        state("a little back", x, 32, 32, 30, 0, 0);
        x.moveTo(28);
        state("further back", x, 28, 28, 28, 0, 0);
        x.moveTo(36);
        state("upward again", x, 36, 36, 28, 0, 0);
        x.moveTo(40);
        state("further up", x, 40, 40, 30, 0, 0);
    }

    private static void promise9BacklashThatChanges() {
        FeedAxis x = new FeedAxis();
        x.setNumber(4, 50);
        x.moveTo(48);
        x.setNumber(4, 3);
        state("not at once", x, 48, 48, 0, 0, 0);
        x.moveTo(44);
        state("upward with a microstep downward", x, 44, 44, 41, 0, 0);
    }

    private static void promise10AddCommand() {
        FeedAxis x = new FeedAxis();
        DUE.is("addCommand(-20001, 0)", x.addCommand(-20001, 0), INVALID);
        DUE.is("addCommand(20001, 0)", x.addCommand(20001, 0), INVALID);
        DUE.is("addCommand(0, -1)", x.addCommand(0, -1), INVALID);
        DUE.is("addCommand(0, 10)", x.addCommand(0, 10), INVALID);
        DUE.is("no state saved", x.count(19), 0);
        int[] places = {20000, -20000, 3, 4, 5, 6, 7, 8};
        int[] priorities = {0, 9, 5, 5, 9, 0, 6, 5};
        for (int i = 0; i < 8; i++) {
            DUE.is("addCommand " + i, x.addCommand(places[i], priorities[i]), i + 1);
        }
        DUE.is("a 9th", x.addCommand(0, 0), FULL);
        DUE.is("a 9th out of range", x.addCommand(0, 10), INVALID);
        int[] order = {-20000, 5, 7, 3, 4, 8, 20000, 6};
        int[] orderOfPriorities = {9, 9, 6, 5, 5, 5, 0, 0};
        for (int i = 0; i < 8; i++) {
            DUE.is("command(" + i + ", 0)", x.command(i, 0), order[i]);
            DUE.is("command(" + i + ", 1)", x.command(i, 1), orderOfPriorities[i]);
        }
        x.undo();
        DUE.is("undo of addCommand", x.count(17), 7);
        DUE.is("undo of addCommand: command(5, 0)", x.command(5, 0), 20000);
    }

    private static void promise11Run() {
        FeedAxis x = new FeedAxis();
        DUE.is("run(0)", x.run(0), INVALID);
        DUE.is("run(9)", x.run(9), INVALID);
        DUE.is("run(1) without commands", x.run(1), STATE);
        x.addCommand(40, 1);
        x.addCommand(-40, 2);
        x.addCommand(80, 1);
        DUE.is("run(0) with commands", x.run(0), INVALID);
        DUE.is("run(9) with commands", x.run(9), INVALID);
        DUE.is("run(1)", x.run(1), 2);
        DUE.is("at -40", x.count(6), -40);
        DUE.is("next is 40", x.command(0, 0), 40);
        DUE.is("its priority", x.command(0, 1), 1);
        DUE.is("then 80", x.command(1, 0), 80);
        DUE.is("saved", x.count(19), 4);
        DUE.is("run(8)", x.run(8), 0);
        DUE.is("at 80", x.count(6), 80);
        accounts("10 down, 30 up", x, 40, 0, 0, 0, 160, 0);
        DUE.is("one state saved for both", x.count(19), 5);
        DUE.is("undo()", x.undo(), 4);
        DUE.is("both again", x.count(17), 2);
        DUE.is("in their order", x.command(0, 0), 40);
        DUE.is("at -40 again", x.count(6), -40);
        DUE.is("run(2)", x.run(2), 0);
        DUE.is("run(2) again", x.run(2), STATE);
    }

    private static void promise11TakesPriorities() {
        FeedAxis x = new FeedAxis();
        for (int i = 0; i < 8; i++) {
            x.addCommand(4 * i, 9 - i);
        }
        for (int i = 0; i < 7; i++) {
            DUE.is("run(1)", x.run(1), 7 - i);
            DUE.is("at " + 4 * i, x.count(6), 4 * i);
            DUE.is("the next priority", x.command(0, 1), 8 - i);
            DUE.is("the last priority", x.command(6 - i, 1), 2);
            DUE.is("no more", x.command(7 - i, 1), NONE);
        }
        x.addCommand(400, 1);
        DUE.is("behind the one that was left", x.command(1, 0), 400);
        x.addCommand(404, 2);
        DUE.is("between", x.command(1, 0), 404);
        DUE.is("run(2)", x.run(2), 1);
        DUE.is("at 404", x.count(6), 404);
    }

    private static void promise11RunWithARefusal() {
        FeedAxis x = new FeedAxis();
        x.addCommand(40, 5);
        x.addCommand(20000, 9);
        x.addCommand(60, 5);
        x.setComb(20000, 99);
        x.setComb(100, 0);
        int saved = x.count(19);
        DUE.is("a refused one counts", x.run(1), 2);
        DUE.is("it is not moved", x.account(0), 0);
        DUE.is("a state is saved", x.count(19), saved + 1);
        DUE.is("run(1)", x.run(1), 1);
        DUE.is("at 40", x.count(6), 40);
    }

    private static void promise12Home() {
        FeedAxis x = new FeedAxis();
        DUE.is("home(-1)", x.home(-1), INVALID);
        DUE.is("home(2)", x.home(2), INVALID);
        DUE.is("home(0) without a flag", x.home(0), STATE);
        x.setFlag(100, 200);
        DUE.is("home(2) with a flag", x.home(2), INVALID);
        x.setNumber(4, 6);
        x.setNumber(5, 9);
        // the table is below 84: no microstep downward; upward until the motor is at 108, the table at 102
        DUE.is("home(0)", x.home(0), 1);
        state("from below", x, 109, 108, 102, 0, 0);
        DUE.is("shift", x.count(11), 1);
        accounts("from below", x, 27, 0, 0, 0, 108, 1);
        // up until the table is above 216 (motor 224), down until it is at 200
        DUE.is("home(1)", x.home(1), -1);
        state("from above", x, 200, 200, 200, 0, 0);
        DUE.is("shift", x.count(11), 0);
        accounts("from above", x, 62, 0, 0, 0, 248, 2);
        DUE.is("saved", x.count(19), 5);
        x.undo();
        state("after undo()", x, 109, 108, 102, 0, 0);
    }

    private static void promise12HomeTwentyThousand() {
        FeedAxis x = new FeedAxis();
        x.setNumber(0, 1);
        x.setFlag(19999, 20000);
        DUE.is("19999 microsteps", x.home(0), 0);
        DUE.is("account(0)", x.account(0), 19999);
        FeedAxis y = new FeedAxis();
        y.setNumber(0, 1);
        y.moveTo(-1);
        y.setFlag(19999, 20000);
        DUE.is("20000 microsteps", y.home(0), 0);
        DUE.is("account(0)", y.account(0), 20001);
        DUE.is("account(5)", y.account(5), 1);
        FeedAxis z = new FeedAxis();
        z.setNumber(0, 1);
        z.moveTo(-2);
        z.setFlag(19999, 20000);
        DUE.is("20001 microsteps", z.home(0), NONE);
        state("nothing has happened", z, -2, -2, -2, 0, 0);
        accounts("nothing has happened", z, 2, 0, 0, 0, 2, 0);
        DUE.is("no state is saved", z.count(19), 3);
        DUE.is("from above, further", z.check(1), NONE);
        FeedAxis w = stuck(4);
        w.setFlag(-10, 10);
        DUE.is("stuck", w.home(0), NONE);
        DUE.is("stuck", w.home(1), NONE);
        DUE.is("stuck", w.check(0), NONE);
        state("stuck", w, 0, 0, 0, 0, 0);
        accounts("stuck", w, 0, 0, 0, 0, 0, 0);
        twentyThousandBothWays();
    }

    private static void twentyThousandBothWays() {
        // from a table at 0, seeking from below: 0 - (f - 17) down and 17 up
        FeedAxis x = new FeedAxis();
        x.setNumber(0, 1);
        x.setFlag(-19966, 0);
        DUE.is("19983 down and 17 up", x.check(0), 0);
        DUE.is("account(0)", x.account(0), 20000);
        FeedAxis y = new FeedAxis();
        y.setNumber(0, 1);
        y.setFlag(-19967, 0);
        DUE.is("19984 down and 17 up", y.check(0), NONE);
        DUE.is("account(0)", y.account(0), 0);
        FeedAxis z = new FeedAxis();
        z.setNumber(0, 1);
        z.setFlag(0, 19966);
        DUE.is("19983 up and 17 down", z.check(1), 0);
        DUE.is("account(0)", z.account(0), 20000);
        FeedAxis w = new FeedAxis();
        w.setNumber(0, 1);
        w.setFlag(0, 19967);
        DUE.is("19984 up and 17 down", w.check(1), NONE);
        DUE.is("account(0)", w.account(0), 0);
    }

    private static void promise12HomeFromWithin() {
        FeedAxis x = new FeedAxis();
        x.setNumber(0, 1);
        x.setFlag(0, 10);
        x.home(0);
        // at f - 16 or above a microstep downward: 17 down to -17, and 17 up
        accounts("from below", x, 34, 0, 0, 0, 34, 1);
        state("from below", x, 0, 0, 0, 0, 0);
        x.moveTo(-16);
        x.home(0);
        accounts("from f - 16", x, 34 + 16 + 18, 0, 0, 0, 68, 2);
        x.moveTo(-17);
        x.home(0);
        accounts("from f - 17", x, 68 + 17 + 17, 0, 0, 0, 102, 3);
        x.moveTo(26);
        x.home(1);
        accounts("from g + 16", x, 102 + 26 + 18, 0, 0, 0, 146, 4);
        state("from above", x, 10, 10, 10, 0, 0);
        x.moveTo(27);
        x.home(1);
        accounts("from g + 17", x, 146 + 17 + 17, 0, 0, 0, 180, 5);
    }

    private static void promise13Check() {
        FeedAxis x = new FeedAxis();
        DUE.is("check(-1)", x.check(-1), INVALID);
        DUE.is("check(2)", x.check(2), INVALID);
        DUE.is("check(0) without a flag", x.check(0), STATE);
        x.setFlag(50, 60);
        x.setNumber(5, 7);
        DUE.is("check(2) with a flag", x.check(2), INVALID);
        DUE.is("check(0): at 52, due is 57", x.check(0), -5);
        state("check(0)", x, 52, 52, 52, 0, 0);
        DUE.is("no shift", x.count(11), 0);
        DUE.is("check(1): at 60", x.check(1), 0);
        state("check(1)", x, 60, 60, 60, 0, 0);
        DUE.is("account(5)", x.account(5), 2);
        DUE.is("saved", x.count(19), 4);
        x.undo();
        state("after undo()", x, 52, 52, 52, 0, 0);
        DUE.is("account(5) after undo()", x.account(5), 1);
    }

    private static void promise13FindsLostTicks() {
        FeedAxis x = new FeedAxis();
        x.setFlag(-40, -20);
        x.setLoad(20, 200);
        DUE.is("40 ticks upward beyond 20", x.moveTo(60), 64);
        state("lost", x, 60, 20, 20, -24, 64);
        x.setLoad(20, -1);
        DUE.is("check(1)", x.check(1), 64);
        state("found", x, 44, -20, -20, 0, 64);
        DUE.is("correct(64)", x.correct(64), -20);
        DUE.is("shift", x.count(11), -64);
        DUE.is("check(1) then", x.check(1), 0);
    }

    private static void promise14Correct() {
        FeedAxis x = new FeedAxis();
        DUE.is("correct(-10000)", x.correct(-10000), INVALID);
        DUE.is("correct(10000)", x.correct(10000), INVALID);
        DUE.is("correct(MIN)", x.correct(Integer.MIN_VALUE), INVALID);
        DUE.is("no state saved", x.count(19), 0);
        DUE.is("correct(5)", x.correct(5), -5);
        DUE.is("shift", x.count(11), -5);
        DUE.is("motor", x.count(7), 0);
        DUE.is("correct(-5)", x.correct(-5), 0);
        DUE.is("correct(0)", x.correct(0), 0);
        DUE.is("three states saved", x.count(19), 3);
        for (int i = 1; i <= 10; i++) {
            DUE.is("correct(9999)", x.correct(9999), -9999 * i);
        }
        DUE.is("to -100000", x.correct(10), STATE);
        DUE.is("to -99999", x.correct(9), -99999);
        DUE.is("to -100000", x.correct(1), STATE);
        DUE.is("out of range first", x.correct(10000), INVALID);
        DUE.is("counter unchanged", x.counter(0), -99999);
        DUE.is("the parts together", x.counter(1), -99999);
        for (int i = 1; i <= 20; i++) {
            DUE.is("correct(-9999)", x.correct(-9999), -99999 + 9999 * i);
        }
        DUE.is("to 100000", x.correct(-19), STATE);
        DUE.is("to 99999", x.correct(-18), 99999);
        DUE.is("to 100000", x.correct(-1), STATE);
        DUE.is("undo()", x.undo(), 5);
        DUE.is("counter", x.count(6), 99981);
    }
}
