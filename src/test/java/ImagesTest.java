/** Promises 15 to 17: images and saved states. */
public final class ImagesTest {
    private static final int INVALID = -1000001;
    private static final int STATE = -1000002;
    private static final int NONE = -1000009;

    private static final Due DUE = new Due("ImagesTest");

    public static void main(String[] args) {
        promise15Keep();
        promise16Back();
        promise16BringsEverything();
        promise17Undo();
        promise17SixStates();
        promise17EachCallSaves();
        DUE.end();
    }

    private static void promise15Keep() {
        FeedAxis x = new FeedAxis();
        DUE.is("keep(-1)", x.keep(-1), INVALID);
        DUE.is("keep(2)", x.keep(2), INVALID);
        DUE.is("keep(32)", x.keep(32), INVALID);
        DUE.is("nothing kept", x.count(20), 0);
        x.moveTo(40);
        DUE.is("keep(1)", x.keep(1), 40);
        DUE.is("count(20)", x.count(20), 2);
        DUE.is("keep() saves no state", x.count(19), 1);
        x.moveTo(80);
        DUE.is("keep(0)", x.keep(0), 80);
        DUE.is("count(20)", x.count(20), 3);
        x.moveTo(120);
        DUE.is("keep(1) in place of what it kept", x.keep(1), 120);
        x.moveTo(0);
        DUE.is("back(1)", x.back(1), 120);
        DUE.is("back(0)", x.back(0), 80);
        x.undo();
        x.undo();
        x.undo();
        x.undo();
        DUE.is("undo() leaves the images", x.count(20), 3);
    }

    private static void promise16Back() {
        FeedAxis x = new FeedAxis();
        x.moveTo(40);
        DUE.is("back(-1)", x.back(-1), INVALID);
        DUE.is("back(2)", x.back(2), INVALID);
        DUE.is("back(33)", x.back(33), INVALID);
        DUE.is("back(0) of nothing", x.back(0), STATE);
        x.keep(0);
        DUE.is("back(1) of nothing", x.back(1), STATE);
        DUE.is("one state saved", x.count(19), 1);
        Due.type(x, "l1");
        x.moveTo(80);
        DUE.is("back(0)", x.back(0), 40);
        DUE.is("the text stays", x.count(18), 2);
        DUE.is("three states saved", x.count(19), 3);
        x.moveTo(84);
        DUE.is("the image stays", x.back(0), 40);
        DUE.is("undo()", x.undo(), 4);
        DUE.is("counter", x.count(6), 84);
        x.undo();
        DUE.is("undo() of what preceded the move", x.count(6), 40);
        x.undo();
        DUE.is("undo() of back(0)", x.count(6), 80);
    }

    /** Sets each part of the state to something of its own. */
    private static FeedAxis full() {
        FeedAxis x = new FeedAxis();
        x.setNumber(0, 2);
        x.setNumber(1, 150);
        x.setNumber(2, 50);
        x.setNumber(3, 20);
        x.setNumber(4, 5);
        x.setNumber(5, 6);
        x.setLoad(100, 199);
        x.setLoad(40, 3);
        x.setComb(7, -8);
        x.setComb(-50, 9);
        x.setFlag(-30, -20);
        x.addCommand(5, 1);
        x.addCommand(6, 2);
        x.moveTo(182);
        x.correct(3);
        return x;
    }

    private static void isFull(String when, FeedAxis x) {
        // c = 182 - 8 = 174; the table is at 100 with the motor at 105 or 106, then 34 stalls, one slip
        int[] due = {2, 150, 50, 20, 5, 6, 171, 106, 101, 4, 64, -3, 140, 199, 0, 2, 2, 2};
        for (int i = 0; i < due.length; i++) {
            DUE.is(when + ": count(" + i + ")", x.count(i), due[i]);
        }
        int[] sums = {87, 34, 1, 0, 106, 0};
        for (int i = 0; i < sums.length; i++) {
            DUE.is(when + ": account(" + i + ")", x.account(i), sums[i]);
        }
        DUE.is(when + ": loadAt(99)", x.loadAt(99), 3);
        DUE.is(when + ": loadAt(100)", x.loadAt(100), 199);
        DUE.is(when + ": loadAt(39)", x.loadAt(39), 0);
        DUE.is(when + ": errorAt(-50)", x.errorAt(-50), 9);
        DUE.is(when + ": errorAt(7)", x.errorAt(7), -8);
        DUE.is(when + ": flag(0)", x.flag(0), -30);
        DUE.is(when + ": flag(1)", x.flag(1), -20);
        DUE.is(when + ": command(0, 0)", x.command(0, 0), 6);
        DUE.is(when + ": command(0, 1)", x.command(0, 1), 2);
        DUE.is(when + ": command(1, 0)", x.command(1, 0), 5);
        DUE.is(when + ": command(1, 1)", x.command(1, 1), 1);
    }

    private static void changeAll(FeedAxis x) {
        int[] others = {1, 200, 60, 21, 0, 0};
        for (int i = 0; i < 6; i++) {
            x.setNumber(i, others[i]);
        }
        x.setLoad(100, -1);
        x.setLoad(41, 1);
        x.setLoad(42, 1);
        x.setComb(7, 50);
        x.setComb(8, 51);
        x.setFlag(-31, 31);
        x.addCommand(9, 9);
        x.run(2);
        x.home(0);
        x.check(1);
        x.correct(11);
    }

    private static void promise16BringsEverything() {
        FeedAxis x = full();
        isFull("full", x);
        x.keep(0);
        changeAll(x);
        DUE.is("back(0)", x.back(0), 171);
        isFull("back", x);
        FeedAxis y = full();
        y.keep(1);
        FeedAxis z = new FeedAxis();
        DUE.is("another object keeps nothing", z.back(1), STATE);
        y.undo();
        DUE.is("undo() after keep()", y.count(11), 0);
        y.back(1);
        isFull("back(1)", y);
    }

    private static void promise17Undo() {
        FeedAxis x = full();
        for (int i = 0; i < 6; i++) {
            x.setNumber(i, x.count(i) == 1 ? 2 : 1);
        }
        for (int i = 5; i >= 0; i--) {
            DUE.is("undo()", x.undo(), i);
        }
        isFull("undone", x);
        DUE.is("undo() of nothing", x.undo(), STATE);
        isFull("still", x);
    }

    private static void promise17SixStates() {
        FeedAxis x = new FeedAxis();
        for (int i = 1; i <= 20; i++) {
            x.moveTo(4 * i);
            DUE.is("saved states", x.count(19), Math.min(i, 6));
        }
        for (int i = 19; i >= 14; i--) {
            DUE.is("undo()", x.undo(), i - 14);
            DUE.is("counter", x.count(6), 4 * i);
        }
        DUE.is("the 7th is discarded", x.undo(), STATE);
        DUE.is("counter", x.count(6), 56);
        x.moveTo(0);
        DUE.is("undo() then", x.undo(), 0);
        DUE.is("counter", x.count(6), 56);
    }

    private static void promise17EachCallSaves() {
        FeedAxis x = new FeedAxis();
        x.appendCharacter('x');
        x.clearText();
        x.keep(0);
        look(x);
        DUE.is("these save nothing", x.count(19), 0);
        x.setNumber(1, 99);
        DUE.is("undo() of setNumber", x.undo(), 0);
        x.setLoad(1, 1);
        DUE.is("undo() of setLoad", x.undo(), 0);
        x.setComb(1, 1);
        DUE.is("undo() of setComb", x.undo(), 0);
        x.setLoad(1, 1);
        x.setLoad(1, -1);
        DUE.is("undo() of a load's removal", x.undo(), 1);
        DUE.is("the load is there", x.count(15), 1);
        DUE.is("undo() of setLoad", x.undo(), 0);
        x.setComb(1, 1);
        x.setComb(1, 100);
        DUE.is("undo() of a comb point's removal", x.undo(), 1);
        DUE.is("the comb point is there", x.count(16), 1);
        DUE.is("undo() of setComb", x.undo(), 0);
        x.setFlag(1, 2);
        DUE.is("undo() of setFlag", x.undo(), 0);
        x.load();
        DUE.is("undo() of load", x.undo(), 0);
        x.moveTo(1);
        DUE.is("undo() of moveTo", x.undo(), 0);
        x.correct(1);
        DUE.is("undo() of correct", x.undo(), 0);
        x.back(0);
        DUE.is("undo() of back", x.undo(), 0);
        x.addCommand(1, 2);
        x.run(1);
        DUE.is("undo() of run", x.undo(), 1);
        DUE.is("undo() of addCommand", x.undo(), 0);
        x.setFlag(1, 2);
        x.home(0);
        x.check(0);
        DUE.is("undo() of check", x.undo(), 2);
        DUE.is("undo() of home", x.undo(), 1);
        DUE.is("account(5)", x.account(5), 0);
    }

    private static void look(FeedAxis x) {
        x.count(6);
        x.account(0);
        x.loadAt(0);
        x.errorAt(0);
        x.command(0, 0);
        x.flag(0);
        x.why(100);
        x.losses(100, 50);
        x.fastest(100);
        x.counter(0);
        DUE.is("wrong calls", x.setLoad(0, -1), STATE);
        DUE.is("wrong calls", x.flag(0), NONE);
    }
}
