import java.util.List;

/**
 * Calls that are told by a line each: "setLoad 10 5"; "type l1:2;" appends each character of what stands behind
 * the first space. Numbers may be MIN and MAX; dues may be INVALID, STATE, FULL, NONE, and "error 5" for
 * what load() answers to an error at the offset 5.
 */
final class Lines {
    /** see() looks in so many ways, each on an object of its own, as some of them change it. */
    static final int WAYS_TO_SEE = 3;

    private static final int[] PLACES = {
        -20000, -19999, -101, -100, -99, -51, -50, -49, -11, -10, -9, -1, 0, 1, 2, 3, 4, 5, 6, 7, 8, 9, 10, 11, 12,
        49, 50, 51, 99, 100, 101, 19999, 20000,
    };

    private Lines() {
    }

    static int number(String word) {
        if (word.startsWith("error ")) {
            return -2000000 - Integer.parseInt(word.substring(6));
        }
        switch (word) {
            case "INVALID": return -1000001;
            case "STATE": return -1000002;
            case "FULL": return -1000003;
            case "NONE": return -1000009;
            case "MIN": return Integer.MIN_VALUE;
            case "MAX": return Integer.MAX_VALUE;
            default: return Integer.parseInt(word);
        }
    }

    static int calls(String line) {
        return line.startsWith("type ") ? line.length() - 5 + 1 : 1;
    }

    static int make(FeedAxis x, String line) {
        if (line.startsWith("type ")) {
            Due.type(x, line.substring(5));
            return x.count(18);
        }
        String[] words = line.split(" ");
        int one = words.length > 1 ? number(words[1]) : 0;
        int two = words.length > 2 ? number(words[2]) : 0;
        switch (words[0]) {
            case "setNumber": return x.setNumber(one, two);
            case "setLoad": return x.setLoad(one, two);
            case "setComb": return x.setComb(one, two);
            case "setFlag": return x.setFlag(one, two);
            case "appendCharacter": return x.appendCharacter(one);
            case "clearText": return x.clearText();
            case "load": return x.load();
            case "moveTo": return x.moveTo(one);
            case "addCommand": return x.addCommand(one, two);
            case "run": return x.run(one);
            case "home": return x.home(one);
            case "check": return x.check(one);
            case "correct": return x.correct(one);
            case "keep": return x.keep(one);
            case "back": return x.back(one);
            case "undo": return x.undo();
            case "count": return x.count(one);
            case "account": return x.account(one);
            case "loadAt": return x.loadAt(one);
            case "errorAt": return x.errorAt(one);
            case "command": return x.command(one, two);
            case "flag": return x.flag(one);
            case "why": return x.why(one);
            case "losses": return x.losses(one, two);
            case "fastest": return x.fastest(one);
            case "counter": return x.counter(one);
            default: throw new IllegalArgumentException(line);
        }
    }

    /** Looks at all that there is: the state and the saved ones, or what the text tells, or what the images keep. */
    static void see(FeedAxis x, int way, List<String> names, List<Integer> seen) {
        if (way == 0) {
            seeState(x, names, seen);
            for (int i = 0; i < 7; i++) {
                saw(x, "undo", names, seen);
                seeNumbers(x, names, seen);
            }
        } else if (way == 1) {
            saw(x, "load", names, seen);
            seeState(x, names, seen);
            saw(x, "clearText", names, seen);
        } else {
            for (int image = 0; image < 2; image++) {
                saw(x, "back " + image, names, seen);
                seeState(x, names, seen);
            }
        }
    }

    private static void seeState(FeedAxis x, List<String> names, List<Integer> seen) {
        seeNumbers(x, names, seen);
        for (int place : PLACES) {
            saw(x, "loadAt " + place, names, seen);
            saw(x, "errorAt " + place, names, seen);
        }
        for (int i = 0; i < 9; i++) {
            saw(x, "command " + i + " 0", names, seen);
            saw(x, "command " + i + " 1", names, seen);
        }
        saw(x, "why 0", names, seen);
        saw(x, "losses 200 1000", names, seen);
        saw(x, "fastest 200", names, seen);
    }

    private static void seeNumbers(FeedAxis x, List<String> names, List<Integer> seen) {
        for (int what = 0; what <= 20; what++) {
            saw(x, "count " + what, names, seen);
        }
        for (int what = 0; what <= 5; what++) {
            saw(x, "account " + what, names, seen);
        }
        saw(x, "flag 0", names, seen);
        saw(x, "flag 1", names, seen);
    }

    private static void saw(FeedAxis x, String call, List<String> names, List<Integer> seen) {
        names.add(call);
        seen.add(make(x, call));
    }
}
