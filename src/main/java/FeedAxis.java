/**
 * A feed axis with a stepping motor, as ../shared/DOC.md promises it. All places and lengths are in
 * ticks. Every row is made by the constructor; no call makes an object.
 */
public final class FeedAxis {
    public static final int INVALID_ARGUMENT = -1000001;
    public static final int ILLEGAL_STATE = -1000002;
    public static final int CAPACITY_EXCEEDED = -1000003;
    public static final int NONE = -1000009;

    private static final int FARTHEST_PLACE = 20000;
    private static final int GREATEST_LOAD = 200;
    private static final int GREATEST_ERROR = 99;
    // The values that remove a point; they are also the answers where there was none.
    private static final int NO_LOAD = -1;
    private static final int NO_COMB = 100;
    private static final int GREATEST_PRIORITY = 9;
    private static final int GREATEST_CHARACTER = 255;
    private static final int GREATEST_CORRECTION = 9999;
    private static final int GREATEST_CORRECTED_COUNTER = 99999;
    private static final int GREATEST_SPEED_TRIED = 1000;
    private static final int SPEEDS_TRIED_APART = 50;
    private static final int IMAGES = 2;
    // Further, and more microsteps, than any run of calls comes to.
    private static final int FAR_AWAY = 1000000000;

    private final Axis present;
    // What a call would lead to is tried here, so that the present state stays as it is.
    private final Axis trial;
    private final Axis[] images;
    private int imagesThatKeep;
    private final Saved saved;
    private final TableText text;

    public FeedAxis() {
        present = new Axis();
        trial = new Axis();
        images = new Axis[IMAGES];
        for (int i = 0; i < IMAGES; i++) {
            images[i] = new Axis();
        }
        imagesThatKeep = 0;
        saved = new Saved();
        text = new TableText();
    }

    // ---- what is told

    public int setNumber(int what, int value) {
        if (!Axis.isNumberInRange(what, value)) {
            return INVALID_ARGUMENT;
        }
        int previous = present.number(what);
        saved.push(present);
        present.changeNumber(what, value);
        return previous;
    }

    public int setLoad(int place, int load) {
        if (!isPlace(place) || load < NO_LOAD || load > GREATEST_LOAD) {
            return INVALID_ARGUMENT;
        }
        return setPoint(present.loads, place, load, NO_LOAD);
    }

    public int setComb(int place, int error) {
        if (!isPlace(place) || error < -GREATEST_ERROR || error > NO_COMB) {
            return INVALID_ARGUMENT;
        }
        return setPoint(present.combs, place, error, NO_COMB);
    }

    public int setFlag(int from, int to) {
        if (!isPlace(from) || !isPlace(to) || to <= from) {
            return INVALID_ARGUMENT;
        }
        int previous = present.hasFlag ? 1 : 0;
        saved.push(present);
        present.placeFlag(from, to);
        return previous;
    }

    public int appendCharacter(int character) {
        if (character < 0 || character > GREATEST_CHARACTER) {
            return INVALID_ARGUMENT;
        }
        if (!text.append(character)) {
            return CAPACITY_EXCEEDED;
        }
        return text.length;
    }

    public int clearText() {
        int previous = text.length;
        text.length = 0;
        return previous;
    }

    public int load() {
        trial.copyFrom(present);
        int answer = text.readInto(trial);
        if (answer >= 0) {
            adoptTrial();
            text.length = 0;
        }
        return answer;
    }

    // ---- moves

    public int moveTo(int place) {
        if (!isPlace(place)) {
            return INVALID_ARGUMENT;
        }
        if (present.refuses(place)) {
            return ILLEGAL_STATE;
        }
        int lostBefore = present.lost;
        saved.push(present);
        present.travel(place);
        return present.lost - lostBefore;
    }

    public int addCommand(int place, int priority) {
        if (!isPlace(place) || priority < 0 || priority > GREATEST_PRIORITY) {
            return INVALID_ARGUMENT;
        }
        if (present.commands.isFull()) {
            return CAPACITY_EXCEEDED;
        }
        saved.push(present);
        present.commands.insert(place, priority);
        return present.commands.size;
    }

    public int run(int count) {
        if (count < 1 || count > Commands.CAPACITY) {
            return INVALID_ARGUMENT;
        }
        if (present.commands.size == 0) {
            return ILLEGAL_STATE;
        }
        saved.push(present);
        for (int i = 0; i < count && present.commands.size > 0; i++) {
            present.carryOutNext();
        }
        return present.commands.size;
    }

    public int home(int side) {
        if (!isSide(side)) {
            return INVALID_ARGUMENT;
        }
        if (!present.hasFlag) {
            return ILLEGAL_STATE;
        }
        trial.copyFrom(present);
        if (!trial.seek(side)) {
            return NONE;
        }
        int change = trial.counterDue(side) - trial.counter;
        trial.moveCounterAlone(change);
        adoptTrial();
        return change;
    }

    public int check(int side) {
        if (!isSide(side)) {
            return INVALID_ARGUMENT;
        }
        if (!present.hasFlag) {
            return ILLEGAL_STATE;
        }
        trial.copyFrom(present);
        if (!trial.seek(side)) {
            return NONE;
        }
        adoptTrial();
        return present.counter - present.counterDue(side);
    }

    public int correct(int ticks) {
        if (ticks < -GREATEST_CORRECTION || ticks > GREATEST_CORRECTION) {
            return INVALID_ARGUMENT;
        }
        int corrected = present.counter - ticks;
        if (corrected < -GREATEST_CORRECTED_COUNTER || corrected > GREATEST_CORRECTED_COUNTER) {
            return ILLEGAL_STATE;
        }
        saved.push(present);
        present.moveCounterAlone(-ticks);
        return present.counter;
    }

    // ---- images

    public int keep(int image) {
        Axis kept = imageNumbered(image);
        if (kept == null) {
            return INVALID_ARGUMENT;
        }
        kept.copyFrom(present);
        imagesThatKeep |= 1 << image;
        return present.counter;
    }

    public int back(int image) {
        Axis kept = imageNumbered(image);
        if (kept == null) {
            return INVALID_ARGUMENT;
        }
        if ((imagesThatKeep & 1 << image) == 0) {
            return ILLEGAL_STATE;
        }
        saved.push(present);
        present.copyFrom(kept);
        return present.counter;
    }

    public int undo() {
        if (!saved.popInto(present)) {
            return ILLEGAL_STATE;
        }
        return saved.size;
    }

    // ---- looking

    public int count(int what) {
        switch (what) {
            case 18: return text.length;
            case 19: return saved.size;
            case 20: return imagesThatKeep;
            default: return Axis.isReading(what) ? present.reading(what) : INVALID_ARGUMENT;
        }
    }

    public int account(int what) {
        if (what < 0 || what >= Axis.ACCOUNTS) {
            return INVALID_ARGUMENT;
        }
        return Rows.at(present.accounts, what);
    }

    public int loadAt(int place) {
        if (!isPlace(place)) {
            return INVALID_ARGUMENT;
        }
        return present.loadOn(place);
    }

    public int errorAt(int place) {
        if (!isPlace(place)) {
            return INVALID_ARGUMENT;
        }
        return present.combs.valueBetween(place);
    }

    public int command(int index, int what) {
        if (index < 0 || what < 0 || what > 1) {
            return INVALID_ARGUMENT;
        }
        if (index >= present.commands.size) {
            return NONE;
        }
        return what == 0 ? present.commands.placeOf(index) : present.commands.priorityOf(index);
    }

    public int flag(int end) {
        if (end < 0 || end > 1) {
            return INVALID_ARGUMENT;
        }
        if (!present.hasFlag) {
            return NONE;
        }
        return end == 0 ? present.flagFrom : present.flagTo;
    }

    // ---- reasons, and what would be

    public int why(int place) {
        if (!isPlace(place)) {
            return INVALID_ARGUMENT;
        }
        if (present.refuses(place)) {
            return 1;
        }
        trial.copyFrom(present);
        trial.travel(place);
        return trial.reasonNotAt(present.target(place));
    }

    public int losses(int place, int speed) {
        if (!isPlace(place) || !Axis.isNumberInRange(Axis.SPEED, speed)) {
            return INVALID_ARGUMENT;
        }
        if (present.refuses(place)) {
            return NONE;
        }
        trial.copyFrom(present);
        trial.changeNumber(Axis.SPEED, speed);
        trial.travel(place);
        return trial.lost - present.lost;
    }

    public int fastest(int place) {
        if (!isPlace(place)) {
            return INVALID_ARGUMENT;
        }
        if (present.refuses(place)) {
            return NONE;
        }
        trial.copyFrom(present);
        int heaviest = trial.travelUnstalled(place);
        for (int speed = GREATEST_SPEED_TRIED; speed > 0; speed -= SPEEDS_TRIED_APART) {
            if (present.torqueAt(speed) >= heaviest) {
                return speed;
            }
        }
        return NONE;
    }

    public int counter(int way) {
        if (way < 0 || way > 1) {
            return INVALID_ARGUMENT;
        }
        return way == 0 ? present.counter : present.motor + present.lag + present.lost + present.shift;
    }

    // ---- what several of the calls need

    private static boolean isPlace(int place) {
        return place >= -FARTHEST_PLACE && place <= FARTHEST_PLACE;
    }

    private static boolean isSide(int side) {
        return side == 0 || side == 1;
    }

    /** Sets a point of the present state, or removes it if the value is the one for an absent point. */
    private int setPoint(Points points, int place, int value, int absent) {
        int previous = points.valueAt(place, absent);
        if (value == absent) {
            if (previous == absent) {
                return ILLEGAL_STATE;
            }
            saved.push(present);
            points.remove(place);
            return previous;
        }
        if (!points.hasRoomFor(place)) {
            return CAPACITY_EXCEEDED;
        }
        saved.push(present);
        points.put(place, value);
        return previous;
    }

    private void adoptTrial() {
        saved.push(present);
        present.copyFrom(trial);
    }

    private Axis imageNumbered(int image) {
        return image >= 0 && image < images.length ? images[image] : null;
    }

    /** Rows of numbers, with every index looked at. */
    private static final class Rows {
        static int at(int[] row, int index) {
            return index >= 0 && index < row.length ? row[index] : 0;
        }

        static void put(int[] row, int index, int value) {
            if (index >= 0 && index < row.length) {
                row[index] = value;
            }
        }

        static void copy(int[] from, int[] to) {
            System.arraycopy(from, 0, to, 0, Math.min(from.length, to.length));
        }
    }

    /** Places, each with a value, one behind the other. The rows are made once. */
    private abstract static class Placed {
        final int[] places;
        final int[] values;
        int size;

        Placed(int capacity) {
            int room = Math.max(0, capacity);
            places = new int[room];
            values = new int[room];
            size = 0;
        }

        void copyFrom(Placed other) {
            Rows.copy(other.places, places);
            Rows.copy(other.values, values);
            size = other.size;
        }

        boolean isFull() {
            return size >= places.length;
        }

        void insertAt(int index, int place, int value) {
            for (int i = size; i > index; i--) {
                Rows.put(places, i, Rows.at(places, i - 1));
                Rows.put(values, i, Rows.at(values, i - 1));
            }
            Rows.put(places, index, place);
            Rows.put(values, index, value);
            size++;
        }

        void removeAt(int index) {
            for (int i = index; i < size - 1; i++) {
                Rows.put(places, i, Rows.at(places, i + 1));
                Rows.put(values, i, Rows.at(values, i + 1));
            }
            size--;
        }
    }

    /** Loads or comb points: values at places, by ascending place, no two at the same one. */
    private static final class Points extends Placed {
        private static final int CAPACITY = 10;

        Points() {
            super(CAPACITY);
        }

        int valueAt(int place, int absent) {
            int index = lastUpTo(place);
            return isAt(index, place) ? Rows.at(values, index) : absent;
        }

        int valueUpTo(int place, int absent) {
            int index = lastUpTo(place);
            return index >= 0 ? Rows.at(values, index) : absent;
        }

        /** The place of the point at a place or nearest below it; a place below all if there is none. */
        int placeUpTo(int place) {
            int index = lastUpTo(place);
            return index >= 0 ? Rows.at(places, index) : -FAR_AWAY;
        }

        /** The place of the point nearest above a place; a place above all if there is none. */
        int placeAbove(int place) {
            int index = lastUpTo(place) + 1;
            return index < size ? Rows.at(places, index) : FAR_AWAY;
        }

        /** The value on the straight line between the neighbours; 0 without points. */
        int valueBetween(int place) {
            int below = lastUpTo(place);
            if (below < 0) {
                return size > 0 ? Rows.at(values, 0) : 0;
            }
            int value = Rows.at(values, below);
            if (below + 1 >= size) {
                return value;
            }
            int from = Rows.at(places, below);
            int width = Rows.at(places, below + 1) - from;
            if (width <= 0) {
                return value;
            }
            int rise = Rows.at(values, below + 1) - value;
            return value + Math.floorDiv(rise * (place - from), width);
        }

        boolean hasRoomFor(int place) {
            return !isFull() || isAt(lastUpTo(place), place);
        }

        void put(int place, int value) {
            int index = lastUpTo(place);
            if (isAt(index, place)) {
                Rows.put(values, index, value);
            } else {
                insertAt(index + 1, place, value);
            }
        }

        void remove(int place) {
            int index = lastUpTo(place);
            if (isAt(index, place)) {
                removeAt(index);
            }
        }

        private boolean isAt(int index, int place) {
            return index >= 0 && Rows.at(places, index) == place;
        }

        private int lastUpTo(int place) {
            int index = -1;
            for (int i = 0; i < size && i < places.length && places[i] <= place; i++) {
                index = i;
            }
            return index;
        }
    }

    /** Commands, in the order in which they would be carried out; the values are their priorities. */
    private static final class Commands extends Placed {
        static final int CAPACITY = 8;

        Commands() {
            super(CAPACITY);
        }

        int placeOf(int index) {
            return Rows.at(places, index);
        }

        int priorityOf(int index) {
            return Rows.at(values, index);
        }

        void insert(int place, int priority) {
            int index = 0;
            while (index < size && priorityOf(index) >= priority) {
                index++;
            }
            insertAt(index, place, priority);
        }

        /** Takes the next command from the others and answers its place. */
        int takeNext() {
            int place = placeOf(0);
            removeAt(0);
            return place;
        }
    }

    /** A state: everything but the text, the images and the saved states. */
    private static final class Axis {
        static final int STEP = 0;
        static final int TORQUE = 1;
        static final int SPEED = 2;
        static final int DROP = 3;
        static final int BACKLASH = 4;
        static final int ASSUMED_BACKLASH = 5;
        static final int NUMBERS = 6;
        private static final int[] LEAST = {1, 0, 1, 0, 0, 0};
        private static final int[] GREATEST = {16, 200, 1000, 100, 50, 50};

        static final int MICROSTEPS = 0;
        static final int STALLS = 1;
        static final int SLIPS_UP = 2;
        static final int SLIPS_DOWN = 3;
        static final int TICKS_TURNED = 4;
        static final int FLAGS_REACHED = 5;
        static final int ACCOUNTS = 6;

        private static final int LAST_READING = 17;
        private static final int FULL_STEP = 16;
        private static final int SLIP_LAG = 32;
        private static final int SLIP_TICKS = 64;
        private static final int MOST_MICROSTEPS_TO_FLAG = 20000;
        private static final int NOT_ENOUGH = -1;

        private final int[] numbers;
        final int[] accounts;
        final Points loads;
        final Points combs;
        final Commands commands;
        boolean hasFlag;
        int flagFrom;
        int flagTo;
        int counter;
        int motor;
        int table;
        int lag;
        int lost;
        int shift;

        Axis() {
            numbers = new int[] {4, 100, 100, 10, 0, 0};
            accounts = new int[ACCOUNTS];
            loads = new Points();
            combs = new Points();
            commands = new Commands();
        }

        void copyFrom(Axis other) {
            Rows.copy(other.numbers, numbers);
            Rows.copy(other.accounts, accounts);
            loads.copyFrom(other.loads);
            combs.copyFrom(other.combs);
            commands.copyFrom(other.commands);
            hasFlag = other.hasFlag;
            flagFrom = other.flagFrom;
            flagTo = other.flagTo;
            counter = other.counter;
            motor = other.motor;
            table = other.table;
            lag = other.lag;
            lost = other.lost;
            shift = other.shift;
        }

        static boolean isNumberInRange(int what, int value) {
            if (what < 0 || what >= NUMBERS) {
                return false;
            }
            if (value < Rows.at(LEAST, what) || value > Rows.at(GREATEST, what)) {
                return false;
            }
            return what != STEP || Integer.bitCount(value) == 1;
        }

        int number(int what) {
            return what >= 0 && what < numbers.length ? numbers[what] : 0;
        }

        void changeNumber(int what, int value) {
            Rows.put(numbers, what, value);
        }

        void placeFlag(int from, int to) {
            hasFlag = true;
            flagFrom = from;
            flagTo = to;
        }

        static boolean isReading(int what) {
            return what >= 0 && what <= LAST_READING;
        }

        /** What can be read off by its number in the document's count(). */
        int reading(int what) {
            switch (what) {
                case 6: return counter;
                case 7: return motor;
                case 8: return table;
                case 9: return lag;
                case 10: return lost;
                case 11: return shift;
                case 12: return torqueAt(number(SPEED));
                case 13: return loadOn(table);
                case 14: return hasFlag && table >= flagFrom && table <= flagTo ? 1 : 0;
                case 15: return loads.size;
                case 16: return combs.size;
                case 17: return commands.size;
                default: return number(what);
            }
        }

        int torqueAt(int speed) {
            return Math.max(0, number(TORQUE) - speed * number(DROP) / 100);
        }

        int loadOn(int place) {
            return loads.valueUpTo(place, 0);
        }

        int target(int place) {
            return place + combs.valueBetween(place);
        }

        boolean refuses(int place) {
            return !isPlace(target(place));
        }

        /** Moves to a place, unless this is refused; answers the heaviest load met on the way. */
        int travel(int place) {
            int heaviest = 0;
            if (refuses(place)) {
                return heaviest;
            }
            int microsteps = microstepsTo(target(place));
            int direction = Integer.signum(microsteps);
            int left = Math.abs(microsteps);
            while (left > 0) {
                heaviest = Math.max(heaviest, loadOn(table));
                int alike = Math.min(left, Math.max(1, microstepsAlike(direction)));
                makeMicrosteps(direction, alike);
                left -= alike;
            }
            return heaviest;
        }

        /** Moves with a torque that no load exceeds. */
        int travelUnstalled(int place) {
            changeNumber(TORQUE, GREATEST_LOAD);
            changeNumber(DROP, 0);
            return travel(place);
        }

        void carryOutNext() {
            travel(commands.takeNext());
        }

        /** Seeks the flag; answers whether it is reached. If not, the state is of no use. */
        boolean seek(int side) {
            int outward = side == 0 ? -1 : 1;
            int edge = side == 0 ? flagFrom : flagTo;
            int left = approach(edge + outward * (FULL_STEP + 1), outward, MOST_MICROSTEPS_TO_FLAG);
            left = approach(edge, -outward, left);
            if (left < 0) {
                return false;
            }
            tally(FLAGS_REACHED, 1);
            return true;
        }

        int counterDue(int side) {
            return side == 0 ? flagFrom + number(ASSUMED_BACKLASH) : flagTo;
        }

        /** Changes what the counter tells, with nothing moved: the shift takes it up. */
        void moveCounterAlone(int ticks) {
            counter += ticks;
            shift += ticks;
        }

        /** The document's number of the reason why the axis is not at the target; 0 if it is. */
        int reasonNotAt(int target) {
            if (counter != target) {
                return 2;
            }
            if (lag != 0) {
                return 3;
            }
            if (motor != target) {
                return lost != 0 ? 4 : 5;
            }
            return table != target ? 6 : 0;
        }

        /**
         * Makes microsteps until the table is at the goal or beyond it. Answers how many are left of those that
         * are allowed; NOT_ENOUGH if they don't suffice, or none were left to begin with.
         */
        private int approach(int goal, int direction, int allowed) {
            int left = allowed;
            while (left >= 0 && (goal - table) * direction > 0) {
                // A table that has stalled stays where it is, so no number of microsteps would do.
                if (left == 0 || stalls()) {
                    return NOT_ENOUGH;
                }
                int alike = Math.min(microstepsAlike(direction), microstepsOfTable(goal, direction));
                int made = Math.min(left, Math.max(1, alike));
                makeMicrosteps(direction, made);
                left -= made;
            }
            return left;
        }

        /** How many microsteps bring the table to a goal ahead, if there is no lag and none of them stalls. */
        private int microstepsOfTable(int goal, int direction) {
            int step = number(STEP);
            int push = direction > 0 ? motor - number(BACKLASH) : motor;
            return step > 0 ? ((goal - push) * direction + step - 1) / step : 0;
        }

        private int microstepsTo(int target) {
            int step = number(STEP);
            return step > 0 ? (target - counter) / step : 0;
        }

        private boolean stalls() {
            return torqueAt(number(SPEED)) < loads.valueUpTo(table, 0);
        }

        /** At least 1, and not more than find the same load under the table as the first one does. */
        private int microstepsAlike(int direction) {
            if (stalls()) {
                // The table stays where it is, so all that follow stall, too.
                return FAR_AWAY;
            }
            int step = number(STEP);
            int tableLeast = motor - number(BACKLASH);
            if (step <= 0 || lag != 0 || table < tableLeast || table > motor) {
                // A lag, or a backlash that has changed, may move the table against the direction.
                return 1;
            }
            int way = direction > 0 ? loads.placeAbove(table) - 1 - tableLeast : motor - loads.placeUpTo(table);
            return way / step + 1;
        }

        /** Makes microsteps that find the same load under the table; all of them stall, or none does. */
        private void makeMicrosteps(int direction, int alike) {
            boolean stalled = stalls();
            int ticks = direction * alike * number(STEP);
            counter += ticks;
            lag += ticks;
            tally(MICROSTEPS, alike);
            if (stalled) {
                tally(STALLS, alike);
                slip();
            } else {
                turnMotor();
            }
        }

        private void turnMotor() {
            tally(TICKS_TURNED, Math.abs(lag));
            motor += lag;
            lag = 0;
            table = Math.min(motor, Math.max(table, motor - number(BACKLASH)));
        }

        /**
         * Slips as often as the stalls that made the lag what it is: as each of them changed it by one step
         * and slipped as soon as it was 32 (or -32), the lag that remains is -32 to 31 (or -31 to 32).
         */
        private void slip() {
            if (lag >= SLIP_LAG) {
                int slips = (lag + SLIP_LAG) / SLIP_TICKS;
                tally(SLIPS_UP, slips);
                lost += slips * SLIP_TICKS;
                lag -= slips * SLIP_TICKS;
            } else if (lag <= -SLIP_LAG) {
                int slips = (SLIP_LAG - lag) / SLIP_TICKS;
                tally(SLIPS_DOWN, slips);
                lost -= slips * SLIP_TICKS;
                lag += slips * SLIP_TICKS;
            }
        }

        private void tally(int account, int amount) {
            Rows.put(accounts, account, Rows.at(accounts, account) + amount);
        }
    }

    /** The saved states, in a ring: a seventh takes the row of the oldest one. */
    private static final class Saved {
        private static final int CAPACITY = 6;

        private final Axis[] rows;
        private int next;
        int size;

        Saved() {
            rows = new Axis[CAPACITY];
            for (int i = 0; i < CAPACITY; i++) {
                rows[i] = new Axis();
            }
            next = 0;
            size = 0;
        }

        void push(Axis axis) {
            Axis row = rowAt(next);
            if (row == null) {
                return;
            }
            row.copyFrom(axis);
            next = (next + 1) % CAPACITY;
            size = Math.min(size + 1, CAPACITY);
        }

        /** Restores the latest state and discards it; false if there is none. */
        boolean popInto(Axis axis) {
            int latest = (next + CAPACITY - 1) % CAPACITY;
            Axis row = rowAt(latest);
            if (size == 0 || row == null) {
                return false;
            }
            axis.copyFrom(row);
            next = latest;
            size--;
            return true;
        }

        private Axis rowAt(int index) {
            return index >= 0 && index < rows.length ? rows[index] : null;
        }
    }

    /** The text that tables are read from, and its reading, from left to right up to the first error. */
    private static final class TableText {
        private static final int CAPACITY = 100;
        private static final int END = -1;
        private static final int ERROR_ANSWER = -2000000;
        private static final int MOST_DIGITS = 5;
        private static final int NO_ERROR = -1;

        private final int[] characters;
        int length;
        private int offset;
        private int error;

        TableText() {
            characters = new int[CAPACITY];
            length = 0;
            offset = 0;
            error = NO_ERROR;
        }

        boolean append(int character) {
            if (length >= CAPACITY) {
                return false;
            }
            Rows.put(characters, length, character);
            length++;
            return true;
        }

        /** Sets what the text tells; answers the number of items, or where the error is, for load(). */
        int readInto(Axis axis) {
            offset = 0;
            error = NO_ERROR;
            int items = 0;
            skipSpaces();
            while (items < CAPACITY && offset < length && error == NO_ERROR) {
                readItem(axis);
                items++;
                skipSpaces();
            }
            return error == NO_ERROR ? items : ERROR_ANSWER - error;
        }

        private void readItem(Axis axis) {
            int start = offset;
            int kind = nextCharacter();
            if (kind != 'l' && kind != 'c' && kind != 'f') {
                error = start;
                return;
            }
            offset++;
            int place = readNumber(-FARTHEST_PLACE, FARTHEST_PLACE, true);
            expect(':');
            int second = readNumber(leastSecond(kind, place), greatestSecond(kind), kind != 'l');
            expect(';');
            if (error == NO_ERROR) {
                setItem(axis, kind, place, second, start);
            }
        }

        private static int leastSecond(int kind, int place) {
            if (kind == 'l') {
                return 0;
            }
            return kind == 'c' ? -GREATEST_ERROR : place + 1;
        }

        private static int greatestSecond(int kind) {
            if (kind == 'l') {
                return GREATEST_LOAD;
            }
            return kind == 'c' ? GREATEST_ERROR : FARTHEST_PLACE;
        }

        private void setItem(Axis axis, int kind, int place, int second, int start) {
            if (kind == 'f') {
                axis.placeFlag(place, second);
                return;
            }
            Points points = kind == 'l' ? axis.loads : axis.combs;
            if (points.hasRoomFor(place)) {
                points.put(place, second);
            } else {
                error = start;
            }
        }

        private int readNumber(int least, int greatest, boolean mayBeNegative) {
            if (error != NO_ERROR) {
                return 0;
            }
            skipSpaces();
            boolean negative = mayBeNegative && nextCharacter() == '-';
            if (negative) {
                offset++;
                skipSpaces();
            }
            int first = offset;
            int value = readDigits();
            if (negative) {
                value = -value;
            }
            int digits = offset - first;
            boolean zeroAhead = digits > 1 && Rows.at(characters, first) == '0';
            if (digits > 0 && (zeroAhead || value < least || value > greatest)) {
                error = first;
            } else if (digits == 0 || isDigit(nextCharacter())) {
                error = offset;
            }
            return value;
        }

        private int readDigits() {
            int value = 0;
            for (int i = 0; i < MOST_DIGITS && isDigit(nextCharacter()); i++) {
                value = value * 10 + nextCharacter() - '0';
                offset++;
            }
            return value;
        }

        private void expect(int character) {
            if (error != NO_ERROR) {
                return;
            }
            skipSpaces();
            if (nextCharacter() == character) {
                offset++;
            } else {
                error = offset;
            }
        }

        private void skipSpaces() {
            while (offset < length && nextCharacter() == ' ') {
                offset++;
            }
        }

        private int nextCharacter() {
            return offset < length ? Rows.at(characters, offset) : END;
        }

        private static boolean isDigit(int character) {
            return character >= '0' && character <= '9';
        }
    }
}
