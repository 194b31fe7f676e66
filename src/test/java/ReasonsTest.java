/** Promises 24 to 27: reasons, and what would be. */
public final class ReasonsTest {
    private static final int INVALID = -1000001;
    private static final int NONE = -1000009;

    private static final Due DUE = new Due("ReasonsTest");

    public static void main(String[] args) {
        promise24Why();
        promise24FirstReason();
        promise24ByTheShiftAlone();
        promise25Losses();
        promise26Fastest();
        promise26FastestOnTheWay();
        promise26FastestByTheTable();
        promise27Counter();
        nothingChanges();
        DUE.end();
    }

    private static void promise24Why() {
        FeedAxis x = new FeedAxis();
        DUE.is("why(-20001)", x.why(-20001), INVALID);
        DUE.is("why(20001)", x.why(20001), INVALID);
        DUE.is("why(20000)", x.why(20000), 0);
        DUE.is("why(0)", x.why(0), 0);
        DUE.is("why(1)", x.why(1), 2);
        DUE.is("why(-3)", x.why(-3), 2);
        x.setComb(0, 1);
        DUE.is("why(20000), c = 20001", x.why(20000), 1);
        DUE.is("why(3), c = 4", x.why(3), 0);
        DUE.is("why(4), c = 5", x.why(4), 2);
        x.setComb(0, 100);
        x.setNumber(4, 4);
        DUE.is("why(4), the table would be at 0", x.why(4), 6);
        DUE.is("why(-4)", x.why(-4), 0);
        DUE.is("why(0), no microstep", x.why(0), 0);
        x.setNumber(4, 0);
        x.setLoad(8, 91);
        DUE.is("why(8)", x.why(8), 0);
        DUE.is("why(12)", x.why(12), 3);
        DUE.is("why(40), a lag of 32 slips", x.why(40), 3);
        // 16 stalls of 4 ticks: one slip, and no lag
        DUE.is("why(72)", x.why(72), 4);
    }

    private static void promise24FirstReason() {
        FeedAxis x = new FeedAxis();
        x.setLoad(0, 200);
        DUE.is("2 is ahead of 3", x.why(5), 2);
        DUE.is("3 is ahead of 4", x.why(60), 3);
        x.setNumber(4, 9);
        DUE.is("4 is ahead of 6", x.why(64), 4);
        x.setLoad(0, -1);
        x.correct(3);
        x.setComb(0, 1);
        DUE.is("5 is ahead of 6", x.why(4), 5);
        DUE.is("2 is ahead of 5", x.why(5), 2);
        x.moveTo(64);
        x.setLoad(0, 200);
        DUE.is("1 is ahead of all", x.why(20000), 1);
        DUE.is("4 with a shift, too", x.why(64 + 64), 4);
    }

    private static void promise24ByTheShiftAlone() {
        FeedAxis x = new FeedAxis();
        x.correct(4);
        DUE.is("the motor is 4 off", x.why(40), 5);
        x.correct(-4);
        DUE.is("no shift", x.why(40), 0);
        x.setLoad(0, 91);
        x.moveTo(64);
        DUE.is("lost", x.count(10), 64);
        DUE.is("no lag", x.count(9), 0);
        x.setLoad(0, -1);
        DUE.is("64 are lost", x.why(0), 4);
        x.correct(64);
        DUE.is("the shift makes up for them", x.why(0), 0);
        DUE.is("there, too", x.why(100), 0);
        x.setNumber(4, 1);
        DUE.is("by backlash", x.why(100), 6);
    }

    private static void promise25Losses() {
        FeedAxis x = new FeedAxis();
        DUE.is("losses(-20001, 1)", x.losses(-20001, 1), INVALID);
        DUE.is("losses(20001, 1)", x.losses(20001, 1), INVALID);
        DUE.is("losses(0, 0)", x.losses(0, 0), INVALID);
        DUE.is("losses(0, 1001)", x.losses(0, 1001), INVALID);
        DUE.is("losses(0, 1)", x.losses(0, 1), 0);
        DUE.is("losses(0, 1000)", x.losses(0, 1000), 0);
        x.setComb(0, 1);
        DUE.is("losses(20000, 1)", x.losses(20000, 1), NONE);
        DUE.is("losses(20000, 0)", x.losses(20000, 0), INVALID);
        x.setComb(0, 100);
        x.setLoad(0, 50);
        DUE.is("a torque of 50", x.losses(160, 500), 0);
        DUE.is("a torque of 50, still", x.losses(160, 509), 0);
        DUE.is("a torque of 49", x.losses(160, 510), 192);
        DUE.is("downward", x.losses(-160, 510), -192);
        DUE.is("31 ticks", x.losses(31, 1000), 0);
        DUE.is("v unchanged", x.count(2), 100);
        x.setNumber(2, 1000);
        DUE.is("whatever v is", x.losses(160, 500), 0);
        x.moveTo(32);
        DUE.is("the lost ticks now", x.count(10), 64);
        DUE.is("how much more", x.losses(96, 1000), 64);
        // a lag of -32: the first microstep downward slips, and the sixteenth
        DUE.is("how much more: less", x.losses(-32, 1000), -128);
    }

    private static void promise26Fastest() {
        FeedAxis x = new FeedAxis();
        DUE.is("fastest(-20001)", x.fastest(-20001), INVALID);
        DUE.is("fastest(20001)", x.fastest(20001), INVALID);
        DUE.is("without a load", x.fastest(400), 1000);
        x.setComb(0, 1);
        DUE.is("refused", x.fastest(20000), NONE);
        x.setComb(0, 100);
        x.setLoad(0, 50);
        DUE.is("a load of 50", x.fastest(400), 500);
        x.setLoad(0, 49);
        DUE.is("a load of 49", x.fastest(400), 500);
        x.setLoad(0, 45);
        DUE.is("a load of 45", x.fastest(400), 550);
        x.setLoad(0, 46);
        DUE.is("a load of 46", x.fastest(400), 500);
        x.setLoad(0, 95);
        DUE.is("a load of 95", x.fastest(400), 50);
        x.setLoad(0, 96);
        DUE.is("a load of 96", x.fastest(400), NONE);
        DUE.is("no microstep, no stall", x.fastest(3), 1000);
        x.setNumber(3, 0);
        DUE.is("a torque that stays", x.fastest(400), 1000);
        x.setLoad(0, 101);
        DUE.is("a torque that stays, and stalls", x.fastest(400), NONE);
        x.setNumber(1, 0);
        x.setLoad(0, 0);
        DUE.is("no torque and no load", x.fastest(400), 1000);
        x.setNumber(3, 100);
        DUE.is("a torque that is not less than 0", x.fastest(400), 1000);
    }

    private static void promise26FastestOnTheWay() {
        FeedAxis x = new FeedAxis();
        x.setNumber(3, 5);
        x.setLoad(40, 80);
        x.setLoad(60, 20);
        x.setLoad(-60, 70);
        x.setLoad(-40, 0);
        DUE.is("before the load", x.fastest(40), 1000);
        DUE.is("into the load", x.fastest(44), 400);
        DUE.is("beyond the load", x.fastest(400), 400);
        DUE.is("downward, before the load", x.fastest(-44), 1000);
        DUE.is("downward, into the load", x.fastest(-48), 600);
        DUE.is("downward, beyond the load", x.fastest(-400), 600);
        DUE.is("v unchanged", x.count(2), 100);
        x.setLoad(400, 81);
        DUE.is("the heaviest of all", x.fastest(404), 350);
        FeedAxis y = new FeedAxis();
        y.setNumber(1, 200);
        y.setNumber(2, 1000);
        y.setNumber(3, 1);
        y.setLoad(40, 195);
        y.setLoad(80, 200);
        DUE.is("heavy loads", y.fastest(80), 550);
        DUE.is("the heaviest load", y.fastest(84), 50);
    }

    private static void promise26FastestByTheTable() {
        FeedAxis x = new FeedAxis();
        x.setNumber(4, 20);
        x.setLoad(40, 80);
        DUE.is("the motor at 60, the table at 40", x.fastest(60), 1000);
        DUE.is("the motor at 64, the table at 40 before", x.fastest(64), 200);
        x.setLoad(0, 200);
        x.setLoad(-8, 0);
        x.setNumber(1, 200);
        x.setNumber(3, 10);
        x.setLoad(0, 190);
        x.moveTo(20);
        x.setNumber(2, 1000);
        x.moveTo(48);
        DUE.is("stalls", x.count(9) != 0 ? 1 : 0, 1);
        x.setNumber(2, 1);
        DUE.is("with a lag", x.fastest(52), 100);
    }

    private static void promise27Counter() {
        FeedAxis x = new FeedAxis();
        DUE.is("counter(-1)", x.counter(-1), INVALID);
        DUE.is("counter(2)", x.counter(2), INVALID);
        DUE.is("counter(0)", x.counter(0), 0);
        DUE.is("counter(1)", x.counter(1), 0);
        x.setLoad(20, 200);
        x.setNumber(4, 7);
        x.moveTo(77);
        x.correct(13);
        DUE.is("counter(0)", x.counter(0), 63);
        DUE.is("counter(1)", x.counter(1), 63);
        DUE.is("lag", x.count(9) != 0 ? 1 : 0, 1);
        DUE.is("lost", x.count(10), 64);
        x.moveTo(-300);
        DUE.is("counter(0)", x.counter(0), -297);
        DUE.is("counter(1)", x.counter(1), -297);
    }

    private static void nothingChanges() {
        FeedAxis x = new FeedAxis();
        x.setNumber(4, 5);
        x.setLoad(10, 91);
        x.setLoad(-10, 91);
        x.addCommand(9, 9);
        x.moveTo(40);
        int[] counts = new int[21];
        for (int i = 0; i < counts.length; i++) {
            counts[i] = x.count(i);
        }
        int[] sums = new int[6];
        for (int i = 0; i < sums.length; i++) {
            sums[i] = x.account(i);
        }
        for (int place = -60; place <= 60; place += 20) {
            x.why(place);
            x.losses(place, 1000);
            x.fastest(place);
            x.counter(1);
        }
        for (int i = 0; i < counts.length; i++) {
            DUE.is("nothing changes: count(" + i + ")", x.count(i), counts[i]);
        }
        for (int i = 0; i < sums.length; i++) {
            DUE.is("nothing changes: account(" + i + ")", x.account(i), sums[i]);
        }
    }
}
