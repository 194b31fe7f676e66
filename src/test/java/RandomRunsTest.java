/** All promises: runs of calls, the same ones every time, whose answers are held against PlainAxis. */
public final class RandomRunsTest {
    private static final int RUNS = 600;
    private static final int CALLS = 512;
    private static final String NAMES = "setNumber setLoad setComb setFlag appendCharacter clearText load moveTo "
            + "addCommand run home check correct keep back undo count account loadAt errorAt command flag why "
            + "losses fastest counter";
    private static final String[] CALL_NAMES = NAMES.split(" ");
    // How often each call is made, in three kinds of runs: mixed ones, ones of tables and texts, ones of moves.
    private static final int[][] WEIGHTS = {
        {10, 10, 6, 4, 0, 1, 3, 16, 6, 5, 5, 5, 4, 3, 3, 6, 20, 8, 6, 6, 4, 2, 8, 6, 6, 3},
        {2, 14, 14, 4, 2, 1, 10, 3, 2, 1, 1, 1, 1, 1, 1, 6, 8, 2, 8, 8, 2, 3, 1, 1, 1, 1},
        {12, 5, 3, 3, 0, 0, 0, 30, 2, 2, 8, 6, 6, 1, 2, 3, 30, 10, 2, 2, 1, 1, 8, 8, 5, 3},
    };
    private static final int[] EDGES = {
        -20001, -20000, -19999, 19999, 20000, 20001, Integer.MIN_VALUE, Integer.MAX_VALUE, -19990, 19990,
    };

    private static final Due DUE = new Due("RandomRunsTest");

    private long seed;
    private final int kind;
    private final FeedAxis axis = new FeedAxis();
    private final PlainAxis plain = new PlainAxis();
    private int calls;
    private final StringBuilder told = new StringBuilder();

    private RandomRunsTest(int run) {
        seed = run * 7919L + 17;
        kind = run % WEIGHTS.length;
    }

    public static void main(String[] args) {
        for (int run = 0; run < RUNS && DUE.allAsDue(); run++) {
            new RandomRunsTest(run).go(run);
        }
        DUE.end();
    }

    private void go(int run) {
        while (calls < CALLS && DUE.allAsDue()) {
            int call = chosen();
            if (call == 6) {
                type();
            }
            make(call);
            if (call < 16 && below(3) == 0) {
                make(16);
            }
        }
        if (!DUE.allAsDue()) {
            System.out.println("run " + run + ":" + told);
        }
    }

    private int below(int bound) {
        seed = seed * 6364136223846793005L + 1442695040888963407L;
        return (int) ((seed >>> 33) % bound);
    }

    private int chosen() {
        int[] weights = WEIGHTS[kind];
        int sum = 0;
        for (int weight : weights) {
            sum += weight;
        }
        int drawn = below(sum);
        int call = 0;
        while (drawn >= weights[call]) {
            drawn -= weights[call];
            call++;
        }
        return call;
    }

    private int place() {
        int drawn = below(100);
        if (drawn < 45) {
            return below(241) - 120;
        }
        if (drawn < 60) {
            return below(21) - 10;
        }
        if (drawn < 88) {
            return below(2001) - 1000;
        }
        if (drawn < 95) {
            return below(40003) - 20001;
        }
        return EDGES[below(EDGES.length)];
    }

    private int small(int least, int greatest) {
        int drawn = below(40);
        if (drawn == 0) {
            return least - 1;
        }
        if (drawn == 1) {
            return greatest + 1;
        }
        if (drawn == 2) {
            return least;
        }
        return drawn == 3 ? greatest : least + below(greatest - least + 1);
    }

    private int value(int what) {
        switch (what) {
            case 0: return below(8) == 0 ? below(18) : 1 << below(5);
            case 1: return small(0, 200);
            case 2: return small(1, 1000);
            case 3: return below(2) == 0 ? small(0, 100) : below(12);
            default: return small(0, 50);
        }
    }

    private int error() {
        return below(5) == 0 ? 100 : below(3) == 0 ? small(-99, 100) : small(-9, 9);
    }

    private int load() {
        return below(6) == 0 ? -1 : below(3) == 0 ? small(-1, 200) : 80 + below(30);
    }

    /** Types a text, most often one that is right, or almost right. */
    private void type() {
        StringBuilder text = new StringBuilder();
        int items = below(14);
        for (int i = 0; i < items && text.length() < 90; i++) {
            appendItem(text);
        }
        if (below(3) == 0 && text.length() > 0) {
            spoil(text);
        }
        call(5, 0, 0);
        for (int i = 0; i < text.length(); i++) {
            call(4, text.charAt(i), 0);
        }
    }

    private void appendItem(StringBuilder text) {
        int drawn = below(8);
        String spaces = below(5) == 0 ? " " : "";
        char first = drawn < 4 ? 'l' : drawn < 7 ? 'c' : 'f';
        int place = below(10) == 0 ? place() : below(30) - 9;
        int second = first == 'l' ? below(220) : first == 'c' ? below(204) - 102 : place + below(30) - 2;
        text.append(spaces).append(first).append(spaces).append(place).append(spaces).append(':');
        text.append(spaces).append(second).append(spaces).append(';').append(spaces);
    }

    private void spoil(StringBuilder text) {
        String signs = "0123456789012345678900--::;; lcfx";
        int offset = below(text.length());
        char sign = signs.charAt(below(signs.length()));
        switch (below(4)) {
            case 0:
                text.setLength(offset);
                break;
            case 1:
                text.setCharAt(offset, sign);
                break;
            case 2:
                text.deleteCharAt(offset);
                break;
            default:
                text.insert(offset, sign);
                break;
        }
    }

    private void make(int call) {
        int what = below(30) == 0 ? below(9) - 1 : below(6);
        switch (call) {
            case 0: call(call, what, value(what)); break;
            case 1: call(call, place(), load()); break;
            case 2: call(call, place(), error()); break;
            case 3: makeFlag(); break;
            case 4: call(call, small(0, 255), 0); break;
            case 8: call(call, place(), small(0, 9)); break;
            case 9: call(call, small(1, 8), 0); break;
            case 10: case 11: case 13: case 14: case 21: case 25: call(call, small(0, 1), 0); break;
            case 12: call(call, correction(), 0); break;
            case 16: call(call, below(3) == 0 ? small(0, 20) : 6 + below(8), 0); break;
            case 17: call(call, small(0, 5), 0); break;
            case 20: call(call, small(0, 8), small(0, 1)); break;
            case 23: call(call, place(), small(1, 1000)); break;
            default: call(call, place(), 0); break;
        }
    }

    private int correction() {
        return below(3) == 0 ? small(-9999, 9999) : 64 * (below(5) - 2) + below(5) - 2;
    }

    private void makeFlag() {
        int from = place();
        boolean narrow = from > -30000 && from < 30000 && below(10) != 0;
        call(3, from, narrow ? from + below(60) - 1 : place());
    }

    /** Makes a call of both axes, unless the run has all its calls or something was wrong before. */
    private void call(int call, int one, int two) {
        if (calls >= CALLS || !DUE.allAsDue()) {
            return;
        }
        calls++;
        told.append(' ').append(CALL_NAMES[call]).append('(').append(one).append(", ").append(two).append(')');
        DUE.is(CALL_NAMES[call] + "(" + one + ", " + two + ")", answer(call, one, two), due(call, one, two));
    }

    private int answer(int call, int one, int two) {
        switch (call) {
            case 0: return axis.setNumber(one, two);
            case 1: return axis.setLoad(one, two);
            case 2: return axis.setComb(one, two);
            case 3: return axis.setFlag(one, two);
            case 4: return axis.appendCharacter(one);
            case 5: return axis.clearText();
            case 6: return axis.load();
            case 7: return axis.moveTo(one);
            case 8: return axis.addCommand(one, two);
            case 9: return axis.run(one);
            case 10: return axis.home(one);
            case 11: return axis.check(one);
            case 12: return axis.correct(one);
            case 13: return axis.keep(one);
            case 14: return axis.back(one);
            case 15: return axis.undo();
            case 16: return axis.count(one);
            case 17: return axis.account(one);
            case 18: return axis.loadAt(one);
            case 19: return axis.errorAt(one);
            case 20: return axis.command(one, two);
            case 21: return axis.flag(one);
            case 22: return axis.why(one);
            case 23: return axis.losses(one, two);
            case 24: return axis.fastest(one);
            default: return axis.counter(one);
        }
    }

    private int due(int call, int one, int two) {
        switch (call) {
            case 0: return plain.setNumber(one, two);
            case 1: return plain.setLoad(one, two);
            case 2: return plain.setComb(one, two);
            case 3: return plain.setFlag(one, two);
            case 4: return plain.appendCharacter(one);
            case 5: return plain.clearText();
            case 6: return plain.load();
            case 7: return plain.moveTo(one);
            case 8: return plain.addCommand(one, two);
            case 9: return plain.run(one);
            case 10: return plain.home(one);
            case 11: return plain.check(one);
            case 12: return plain.correct(one);
            case 13: return plain.keep(one);
            case 14: return plain.back(one);
            case 15: return plain.undo();
            case 16: return plain.count(one);
            case 17: return plain.account(one);
            case 18: return plain.loadAt(one);
            case 19: return plain.errorAt(one);
            case 20: return plain.command(one, two);
            case 21: return plain.flag(one);
            case 22: return plain.why(one);
            case 23: return plain.losses(one, two);
            case 24: return plain.fastest(one);
            default: return plain.counter(one);
        }
    }
}
