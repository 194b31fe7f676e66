import java.util.ArrayDeque;
import java.util.ArrayList;
import java.util.Deque;
import java.util.List;
import java.util.Map;
import java.util.TreeMap;

/**
 * The axis of the document once more, written for the tests alone: one microstep at a time, one speed at a
 * time, with the Java library and without a thought of speed, so that it can be held against the document.
 */
final class PlainAxis {
    private static final int INVALID = -1000001;
    private static final int STATE = -1000002;
    private static final int FULL = -1000003;
    private static final int NONE = -1000009;

    /** Everything but the text, the images and the saved states. */
    private static final class State {
        int s = 4;
        int t = 100;
        int v = 100;
        int d = 10;
        int backlash;
        int assumed;
        int counter;
        int motor;
        int table;
        int lag;
        int lost;
        int shift;
        int[] flag;
        TreeMap<Integer, Integer> loads = new TreeMap<>();
        TreeMap<Integer, Integer> combs = new TreeMap<>();
        List<int[]> commands = new ArrayList<>();
        int[] accounts = new int[6];

        State copy() {
            State c = new State();
            c.s = s;
            c.t = t;
            c.v = v;
            c.d = d;
            c.backlash = backlash;
            c.assumed = assumed;
            c.counter = counter;
            c.motor = motor;
            c.table = table;
            c.lag = lag;
            c.lost = lost;
            c.shift = shift;
            c.flag = flag;
            c.loads = new TreeMap<>(loads);
            c.combs = new TreeMap<>(combs);
            c.commands = new ArrayList<>(commands);
            c.accounts = accounts.clone();
            return c;
        }

        int torque() {
            return Math.max(t - v * d / 100, 0);
        }

        int loadAt(int place) {
            Map.Entry<Integer, Integer> entry = loads.floorEntry(place);
            return entry == null ? 0 : entry.getValue();
        }

        int errorAt(int x) {
            if (combs.isEmpty()) {
                return 0;
            }
            Map.Entry<Integer, Integer> low = combs.floorEntry(x);
            Map.Entry<Integer, Integer> high = combs.ceilingEntry(x);
            if (low == null) {
                return high.getValue();
            }
            if (high == null || low.getKey().equals(high.getKey())) {
                return low.getValue();
            }
            double exact = (double) ((high.getValue() - low.getValue()) * (x - low.getKey()))
                    / (high.getKey() - low.getKey());
            return low.getValue() + (int) Math.floor(exact);
        }

        void microstep(boolean upward) {
            counter = upward ? counter + s : counter - s;
            lag = upward ? lag + s : lag - s;
            accounts[0]++;
            if (torque() >= loadAt(table)) {
                motor += lag;
                accounts[4] += lag < 0 ? -lag : lag;
                lag = 0;
                if (table < motor - backlash) {
                    table = motor - backlash;
                } else if (table > motor) {
                    table = motor;
                }
                return;
            }
            accounts[1]++;
            if (lag >= 32) {
                lost += 64;
                lag -= 64;
                accounts[2]++;
            } else if (lag <= -32) {
                lost -= 64;
                lag += 64;
                accounts[3]++;
            }
        }

        boolean moveTo(int x) {
            int c = x + errorAt(x);
            if (c < -20000 || c > 20000) {
                return false;
            }
            int microsteps = (c - counter) / s;
            while (microsteps != 0) {
                microstep(microsteps > 0);
                microsteps += microsteps > 0 ? -1 : 1;
            }
            return true;
        }

        boolean seek(int side) {
            int made = 0;
            if (side == 0) {
                while (table >= flag[0] - 16 && made <= 20000) {
                    microstep(false);
                    made++;
                }
                while (table < flag[0] && made <= 20000) {
                    microstep(true);
                    made++;
                }
            } else {
                while (table <= flag[1] + 16 && made <= 20000) {
                    microstep(true);
                    made++;
                }
                while (table > flag[1] && made <= 20000) {
                    microstep(false);
                    made++;
                }
            }
            accounts[5]++;
            return made <= 20000;
        }

        int due(int side) {
            return side == 0 ? flag[0] + assumed : flag[1];
        }
    }

    private State now = new State();
    private final State[] images = new State[2];
    private final Deque<State> saved = new ArrayDeque<>();
    private String text = "";

    private void save(State state) {
        saved.push(state);
        if (saved.size() > 6) {
            saved.removeLast();
        }
    }

    private static boolean in(int value, int least, int greatest) {
        return least <= value && value <= greatest;
    }

    private static boolean place(int value) {
        return in(value, -20000, 20000);
    }

    int setNumber(int what, int value) {
        State next = now.copy();
        int previous;
        boolean fits;
        switch (what) {
            case 0:
                previous = now.s;
                fits = List.of(1, 2, 4, 8, 16).contains(value);
                next.s = value;
                break;
            case 1:
                previous = now.t;
                fits = in(value, 0, 200);
                next.t = value;
                break;
            case 2:
                previous = now.v;
                fits = in(value, 1, 1000);
                next.v = value;
                break;
            case 3:
                previous = now.d;
                fits = in(value, 0, 100);
                next.d = value;
                break;
            case 4:
                previous = now.backlash;
                fits = in(value, 0, 50);
                next.backlash = value;
                break;
            case 5:
                previous = now.assumed;
                fits = in(value, 0, 50);
                next.assumed = value;
                break;
            default:
                return INVALID;
        }
        if (!fits) {
            return INVALID;
        }
        save(now);
        now = next;
        return previous;
    }

    int setLoad(int place, int load) {
        if (!place(place) || !in(load, -1, 200)) {
            return INVALID;
        }
        State next = now.copy();
        return setIn(next, next.loads, place, load, -1);
    }

    int setComb(int place, int error) {
        if (!place(place) || !in(error, -99, 100)) {
            return INVALID;
        }
        State next = now.copy();
        return setIn(next, next.combs, place, error, 100);
    }

    private int setIn(State next, TreeMap<Integer, Integer> points, int place, int value, int none) {
        Integer previous = value == none ? points.remove(place) : points.put(place, value);
        if (value == none && previous == null) {
            return STATE;
        }
        if (points.size() > 10) {
            return FULL;
        }
        save(now);
        now = next;
        return previous == null ? none : previous;
    }

    int setFlag(int from, int to) {
        if (!place(from) || !place(to) || from >= to) {
            return INVALID;
        }
        int answer = now.flag == null ? 0 : 1;
        save(now.copy());
        now.flag = new int[] {from, to};
        return answer;
    }

    int appendCharacter(int character) {
        if (!in(character, 0, 255)) {
            return INVALID;
        }
        if (text.length() == 100) {
            return FULL;
        }
        text += (char) character;
        return text.length();
    }

    int clearText() {
        int length = text.length();
        text = "";
        return length;
    }

    /** Reads a character at a time: what is awaited next is told by a letter. */
    int load() {
        State next = now.copy();
        int items = 0;
        int start = 0;
        char kind = ' ';
        char awaited = 'i';
        boolean second = false;
        boolean minus = false;
        int place = 0;
        int value = 0;
        String digits = "";
        for (int i = 0; i <= text.length(); i++) {
            char c = i < text.length() ? text.charAt(i) : '\u1000';
            if (awaited == 'd' && (digits.length() == 5 || !Character.isDigit(c))) {
                value = minus ? -Integer.parseInt(digits) : Integer.parseInt(digits);
                if (digits.length() > 1 && digits.charAt(0) == '0' || !fits(kind, second, place, value)) {
                    return -2000000 - (i - digits.length());
                }
                awaited = second ? ';' : ':';
            }
            if (c == ' ') {
                continue;
            }
            if (awaited == 'i' && (c == 'l' || c == 'c' || c == 'f')) {
                kind = c;
                start = i;
                second = false;
                minus = false;
                awaited = 'n';
            } else if (awaited == 'n' && c == '-' && !minus && !(second && kind == 'l')) {
                minus = true;
            } else if ((awaited == 'n' || awaited == 'd') && c >= '0' && c <= '9') {
                digits = awaited == 'n' ? "" + c : digits + c;
                awaited = 'd';
            } else if (awaited == ':' && c == ':') {
                place = value;
                second = true;
                minus = false;
                awaited = 'n';
            } else if (awaited == ';' && c == ';') {
                if (!set(next, kind, place, value)) {
                    return -2000000 - start;
                }
                items++;
                awaited = 'i';
            } else if (awaited != 'i' || c != '\u1000') {
                return -2000000 - i;
            }
        }
        save(now);
        now = next;
        text = "";
        return items;
    }

    private static boolean fits(char kind, boolean second, int place, int value) {
        if (!second) {
            return place(value);
        }
        if (kind == 'f') {
            return value > place && value <= 20000;
        }
        return kind == 'l' ? in(value, 0, 200) : in(value, -99, 99);
    }

    private static boolean set(State next, char kind, int place, int value) {
        if (kind == 'f') {
            next.flag = new int[] {place, value};
            return true;
        }
        TreeMap<Integer, Integer> points = kind == 'l' ? next.loads : next.combs;
        points.put(place, value);
        return points.size() <= 10;
    }

    int moveTo(int place) {
        if (!place(place)) {
            return INVALID;
        }
        State next = now.copy();
        if (!next.moveTo(place)) {
            return STATE;
        }
        int answer = next.lost - now.lost;
        save(now);
        now = next;
        return answer;
    }

    int addCommand(int place, int priority) {
        if (!place(place) || !in(priority, 0, 9)) {
            return INVALID;
        }
        if (now.commands.size() == 8) {
            return FULL;
        }
        save(now.copy());
        now.commands.add(new int[] {place, priority});
        now.commands.sort((one, other) -> other[1] - one[1]);
        return now.commands.size();
    }

    int run(int count) {
        if (!in(count, 1, 8)) {
            return INVALID;
        }
        if (now.commands.isEmpty()) {
            return STATE;
        }
        save(now.copy());
        for (int i = 0; i < count && !now.commands.isEmpty(); i++) {
            now.moveTo(now.commands.remove(0)[0]);
        }
        return now.commands.size();
    }

    int home(int side) {
        int seen = check(side);
        if (seen == INVALID || seen == STATE || seen == NONE) {
            return seen;
        }
        now.counter -= seen;
        now.shift -= seen;
        return -seen;
    }

    int check(int side) {
        if (!in(side, 0, 1)) {
            return INVALID;
        }
        if (now.flag == null) {
            return STATE;
        }
        State next = now.copy();
        if (!next.seek(side)) {
            return NONE;
        }
        save(now);
        now = next;
        return now.counter - now.due(side);
    }

    int correct(int ticks) {
        if (!in(ticks, -9999, 9999)) {
            return INVALID;
        }
        if (!in(now.counter - ticks, -99999, 99999)) {
            return STATE;
        }
        save(now.copy());
        now.counter -= ticks;
        now.shift -= ticks;
        return now.counter;
    }

    int keep(int image) {
        if (!in(image, 0, 1)) {
            return INVALID;
        }
        images[image] = now.copy();
        return now.counter;
    }

    int back(int image) {
        if (!in(image, 0, 1)) {
            return INVALID;
        }
        if (images[image] == null) {
            return STATE;
        }
        save(now);
        now = images[image].copy();
        return now.counter;
    }

    int undo() {
        if (saved.isEmpty()) {
            return STATE;
        }
        now = saved.pop();
        return saved.size();
    }

    int count(int what) {
        if (!in(what, 0, 20)) {
            return INVALID;
        }
        int covered = now.flag != null && in(now.table, now.flag[0], now.flag[1]) ? 1 : 0;
        int kept = (images[0] == null ? 0 : 1) + (images[1] == null ? 0 : 2);
        int[] numbers = {
            now.s, now.t, now.v, now.d, now.backlash, now.assumed, now.counter, now.motor, now.table, now.lag,
            now.lost, now.shift, now.torque(), now.loadAt(now.table), covered, now.loads.size(),
            now.combs.size(), now.commands.size(), text.length(), saved.size(), kept,
        };
        return numbers[what];
    }

    int account(int what) {
        return in(what, 0, 5) ? now.accounts[what] : INVALID;
    }

    int loadAt(int place) {
        return place(place) ? now.loadAt(place) : INVALID;
    }

    int errorAt(int place) {
        return place(place) ? now.errorAt(place) : INVALID;
    }

    int command(int index, int what) {
        if (index < 0 || !in(what, 0, 1)) {
            return INVALID;
        }
        return index < now.commands.size() ? now.commands.get(index)[what] : NONE;
    }

    int flag(int end) {
        if (!in(end, 0, 1)) {
            return INVALID;
        }
        return now.flag == null ? NONE : now.flag[end];
    }

    int why(int place) {
        if (!place(place)) {
            return INVALID;
        }
        int c = place + now.errorAt(place);
        State next = now.copy();
        if (!next.moveTo(place)) {
            return 1;
        }
        if (next.counter != c) {
            return 2;
        }
        if (next.lag != 0) {
            return 3;
        }
        if (next.motor != c && next.lost != 0) {
            return 4;
        }
        if (next.motor != c) {
            return 5;
        }
        return next.table == c ? 0 : 6;
    }

    int losses(int place, int speed) {
        if (!place(place) || !in(speed, 1, 1000)) {
            return INVALID;
        }
        State next = now.copy();
        next.v = speed;
        return next.moveTo(place) ? next.lost - now.lost : NONE;
    }

    int fastest(int place) {
        if (!place(place)) {
            return INVALID;
        }
        int answer = NONE;
        for (int speed = 50; speed <= 1000; speed += 50) {
            State next = now.copy();
            next.v = speed;
            if (next.moveTo(place) && next.accounts[1] == now.accounts[1]) {
                answer = speed;
            }
        }
        return answer;
    }

    int counter(int way) {
        if (!in(way, 0, 1)) {
            return INVALID;
        }
        return way == 0 ? now.counter : now.motor + now.lag + now.lost + now.shift;
    }
}
