/** Promises 18 to 23: looking. */
public final class LookingTest {
    private static final int INVALID = -1000001;
    private static final int NONE = -1000009;

    private static final Due DUE = new Due("LookingTest");

    public static void main(String[] args) {
        promise18Count();
        promise18Torque();
        promise18FlagCovers();
        promise19Account();
        promise20LoadAt();
        promise21ErrorAt();
        promise21BelowZero();
        promise21RoundsDown();
        promise22Command();
        promise23Flag();
        DUE.end();
    }

    private static void promise18Count() {
        FeedAxis x = new FeedAxis();
        DUE.is("count(-1)", x.count(-1), INVALID);
        DUE.is("count(21)", x.count(21), INVALID);
        DUE.is("count(MIN)", x.count(Integer.MIN_VALUE), INVALID);
        DUE.is("count(MAX)", x.count(Integer.MAX_VALUE), INVALID);
        x.setNumber(4, 3);
        x.setLoad(20, 95);
        x.setLoad(-9, 33);
        x.setComb(7, 0);
        x.addCommand(1, 1);
        x.addCommand(2, 1);
        x.addCommand(3, 1);
        x.correct(-2);
        x.moveTo(62);
        Due.type(x, "l5");
        x.keep(1);
        // up from 2: the motor comes to 24 (the table to 21), then 9 stalls of 4 ticks
        int[] due = {4, 100, 100, 10, 3, 0, 62, 24, 21, -28, 64, 2, 90, 95, 0, 2, 1, 3, 2, 6, 2};
        for (int i = 0; i < due.length; i++) {
            DUE.is("count(" + i + ")", x.count(i), due[i]);
        }
        x.keep(0);
        DUE.is("count(20)", x.count(20), 3);
    }

    private static void promise18Torque() {
        FeedAxis x = new FeedAxis();
        int[][] torques = {
            {200, 1, 0, 200}, {200, 1000, 10, 100}, {200, 1000, 100, 0}, {0, 1, 0, 0}, {200, 199, 100, 1},
            {100, 99, 1, 100}, {100, 100, 1, 99}, {100, 199, 1, 99}, {50, 7, 15, 49}, {50, 1000, 6, 0},
            {50, 1000, 5, 0}, {50, 980, 5, 1},
        };
        for (int[] row : torques) {
            x.setNumber(1, row[0]);
            x.setNumber(2, row[1]);
            x.setNumber(3, row[2]);
            DUE.is("torque of " + row[0] + " - " + row[1] + " * " + row[2] + " / 100", x.count(12), row[3]);
        }
    }

    private static void promise18FlagCovers() {
        FeedAxis x = new FeedAxis();
        x.setNumber(0, 1);
        x.setFlag(5, 7);
        int[] covered = {0, 1, 1, 1, 0};
        for (int i = 0; i < covered.length; i++) {
            x.moveTo(4 + i);
            DUE.is("covers " + (4 + i), x.count(14), covered[i]);
        }
        x.setNumber(4, 2);
        x.moveTo(9);
        DUE.is("the table, not the motor: covers 8", x.count(14), 0);
        x.moveTo(7);
        DUE.is("covers 7", x.count(14), 1);
    }

    private static void promise19Account() {
        FeedAxis x = new FeedAxis();
        DUE.is("account(-1)", x.account(-1), INVALID);
        DUE.is("account(6)", x.account(6), INVALID);
        DUE.is("account(MIN)", x.account(Integer.MIN_VALUE), INVALID);
        DUE.is("account(MAX)", x.account(Integer.MAX_VALUE), INVALID);
        x.moveTo(-40);
        x.moveTo(40);
        x.setLoad(0, 200);
        x.moveTo(240);
        x.moveTo(-160);
        x.setLoad(0, 0);
        x.setFlag(90, 91);
        x.check(0);
        // 10 down, 20 up; 50 stalls up: 3 slips; 100 stalls down: 6 slips
        int[] due = {10 + 20 + 50 + 100, 150, 3, 6, 120, 0};
        for (int i = 1; i < 4; i++) {
            DUE.is("account(" + i + ")", x.account(i), due[i]);
        }
        DUE.is("account(5)", x.account(5), 1);
        x.undo();
        DUE.is("account(0)", x.account(0), due[0]);
        DUE.is("account(4)", x.account(4), due[4]);
        DUE.is("account(5)", x.account(5), 0);
    }

    private static void promise20LoadAt() {
        FeedAxis x = new FeedAxis();
        DUE.is("loadAt(-20001)", x.loadAt(-20001), INVALID);
        DUE.is("loadAt(20001)", x.loadAt(20001), INVALID);
        DUE.is("loadAt(0)", x.loadAt(0), 0);
        x.setLoad(10, 5);
        x.setLoad(-10, 7);
        x.setLoad(20, 0);
        DUE.is("loadAt(-20000)", x.loadAt(-20000), 0);
        DUE.is("loadAt(-11)", x.loadAt(-11), 0);
        DUE.is("loadAt(-10)", x.loadAt(-10), 7);
        DUE.is("loadAt(9)", x.loadAt(9), 7);
        DUE.is("loadAt(10)", x.loadAt(10), 5);
        DUE.is("loadAt(19)", x.loadAt(19), 5);
        DUE.is("loadAt(20)", x.loadAt(20), 0);
        DUE.is("loadAt(20000)", x.loadAt(20000), 0);
    }

    private static void promise21ErrorAt() {
        FeedAxis x = new FeedAxis();
        DUE.is("errorAt(-20001)", x.errorAt(-20001), INVALID);
        DUE.is("errorAt(20001)", x.errorAt(20001), INVALID);
        DUE.is("errorAt(0) without points", x.errorAt(0), 0);
        x.setComb(10, -50);
        DUE.is("below the only one", x.errorAt(-20000), -50);
        DUE.is("above the only one", x.errorAt(20000), -50);
        x.setComb(20, 50);
        x.setComb(0, 30);
        DUE.is("below the lowest", x.errorAt(-1), 30);
        DUE.is("above the highest", x.errorAt(21), 50);
        DUE.is("at the lowest", x.errorAt(0), 30);
        DUE.is("between the lower two", x.errorAt(5), -10);
        DUE.is("at the middle one", x.errorAt(10), -50);
        DUE.is("between the upper two", x.errorAt(13), -20);
        DUE.is("at the highest", x.errorAt(20), 50);
    }

    private static void promise21BelowZero() {
        FeedAxis x = new FeedAxis();
        x.setComb(-50, 7);
        x.setComb(-60, 3);
        DUE.is("errorAt(-40)", x.errorAt(-40), 7);
        DUE.is("errorAt(0)", x.errorAt(0), 7);
        DUE.is("errorAt(-55)", x.errorAt(-55), 5);
        DUE.is("errorAt(-61)", x.errorAt(-61), 3);
    }

    private static void promise21RoundsDown() {
        FeedAxis x = new FeedAxis();
        x.setComb(0, 5);
        x.setComb(3, 3);
        // -2 * 1 / 3 is -0.67, so -1; -2 * 2 / 3 is -1.33, so -2
        DUE.is("errorAt(1)", x.errorAt(1), 4);
        DUE.is("errorAt(2)", x.errorAt(2), 3);
        x.setComb(3, -7);
        x.setComb(0, -9);
        // 2 * 1 / 3 is 0.67, so 0; 2 * 2 / 3 is 1.33, so 1
        DUE.is("errorAt(1)", x.errorAt(1), -9);
        DUE.is("errorAt(2)", x.errorAt(2), -8);
        FeedAxis y = new FeedAxis();
        y.setComb(-20000, 99);
        y.setComb(20000, -99);
        DUE.is("errorAt(-19999)", y.errorAt(-19999), 98);
        DUE.is("errorAt(0)", y.errorAt(0), 0);
        DUE.is("errorAt(1)", y.errorAt(1), -1);
        DUE.is("errorAt(19999)", y.errorAt(19999), -99);
    }

    private static void promise22Command() {
        FeedAxis x = new FeedAxis();
        DUE.is("command(-1, 0)", x.command(-1, 0), INVALID);
        DUE.is("command(0, -1)", x.command(0, -1), INVALID);
        DUE.is("command(0, 2)", x.command(0, 2), INVALID);
        DUE.is("command(99, 2)", x.command(99, 2), INVALID);
        DUE.is("command(0, 0)", x.command(0, 0), NONE);
        DUE.is("command(MAX, 1)", x.command(Integer.MAX_VALUE, 1), NONE);
        x.addCommand(-7, 3);
        x.addCommand(-8, 4);
        DUE.is("command(0, 0)", x.command(0, 0), -8);
        DUE.is("command(0, 1)", x.command(0, 1), 4);
        DUE.is("command(1, 0)", x.command(1, 0), -7);
        DUE.is("command(1, 1)", x.command(1, 1), 3);
        DUE.is("command(2, 0)", x.command(2, 0), NONE);
        DUE.is("command(8, 0)", x.command(8, 0), NONE);
        x.run(1);
        DUE.is("command(0, 0) after run(1)", x.command(0, 0), -7);
        DUE.is("command(1, 0) after run(1)", x.command(1, 0), NONE);
    }

    private static void promise23Flag() {
        FeedAxis x = new FeedAxis();
        DUE.is("flag(-1)", x.flag(-1), INVALID);
        DUE.is("flag(2)", x.flag(2), INVALID);
        DUE.is("flag(0)", x.flag(0), NONE);
        DUE.is("flag(1)", x.flag(1), NONE);
        x.setFlag(-3, 4);
        DUE.is("flag(0)", x.flag(0), -3);
        DUE.is("flag(1)", x.flag(1), 4);
        DUE.is("flag(2) with a flag", x.flag(2), INVALID);
    }
}
