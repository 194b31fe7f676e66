import java.util.ArrayList;
import java.util.Arrays;
import java.util.List;

/** 'Errors': a method that returns an error code changes nothing, and looking changes nothing, in a full axis. */
public final class RefusalEdgesTest {
    private static final Due DUE = new Due("RefusalEdgesTest");

    public static void main(String[] args) {
        refusedInAFullAxis();
        refusedInANewAxis();
        refusedInABareAxis();
        lookingChangesNothing();
        firstNamedCode();
        farNumbers();
        DUE.end();
    }

    /** Everything that has a limit is at its limit, and every part of the state is told apart from the others. */
    private static String[] full() {
        List<String> lines = new ArrayList<>(Arrays.asList("setNumber 0 2", "setNumber 1 150", "setNumber 2 50",
            "setNumber 3 20", "setNumber 5 6"));
        for (int i = 0; i < 10; i++) {
            lines.add("setLoad " + (10 * i - 40) + " " + (i + 1));
            lines.add("setComb " + (2 * i - 8) + " " + (i - 5));
        }
        for (int i = 0; i < 8; i++) {
            lines.add("addCommand " + 7 * i + " " + i);
        }
        lines.addAll(Arrays.asList("type " + " ".repeat(92) + "l10:99;x", "moveTo 60", "keep 0", "setLoad 50 200",
            "setNumber 4 9", "moveTo 182", "keep 1", "correct 3", "setFlag -30 -20"));
        return lines.toArray(new String[0]);
    }

    private static void refusedInAFullAxis() {
        DUE.sentence("A method that returns an error code changes nothing");
        String[] invalid = {
            "setNumber -1 1", "setNumber 6 1", "setNumber 0 0", "setNumber 0 3", "setNumber 0 32", "setNumber 1 -1",
            "setNumber 1 201", "setNumber 2 0", "setNumber 2 1001", "setNumber 3 -1", "setNumber 3 101",
            "setNumber 4 -1", "setNumber 4 51", "setNumber 5 -1", "setNumber 5 51", "setLoad -20001 1",
            "setLoad 20001 1", "setLoad 10 -2", "setLoad 10 201", "setComb -20001 1", "setComb 20001 1",
            "setComb 0 -100", "setComb 0 101", "setFlag -20001 0", "setFlag 0 20001", "setFlag 5 5", "setFlag 5 4",
            "appendCharacter -1", "appendCharacter 256", "moveTo -20001", "moveTo 20001", "addCommand -20001 1",
            "addCommand 20001 1", "addCommand 1 -1", "addCommand 1 10", "run 0", "run 9", "home -1", "home 2",
            "check -1", "check 2", "correct -10000", "correct 10000", "keep -1", "keep 2", "back -1", "back 2",
            "count -1", "count 21", "account -1", "account 6", "loadAt -20001", "loadAt 20001", "errorAt -20001",
            "errorAt 20001", "command -1 0", "command 0 -1", "command 0 2", "flag -1", "flag 2", "why -20001",
            "why 20001", "losses -20001 1", "losses 20001 1", "losses 0 0", "losses 0 1001", "fastest -20001",
            "fastest 20001", "counter -1", "counter 2",
        };
        for (String call : invalid) {
            DUE.refused(full(), call, "INVALID");
        }
        String[] state = {"setLoad 5 -1", "setComb 5 100", "moveTo -20000"};
        for (String call : state) {
            DUE.refused(full(), call, "STATE");
        }
        String[] capacity = {"setLoad 5 1", "setComb 5 1", "appendCharacter 32", "addCommand 5 5"};
        for (String call : capacity) {
            DUE.refused(full(), call, "FULL");
        }
        DUE.refused(full(), "load", "error 99");
        String[] none = {"home 0", "home 1", "check 0", "check 1", "command 8 0", "losses -20000 1", "fastest -20000",
            "fastest 182"};
        for (String call : none) {
            DUE.refused(full(), call, "NONE");
        }
    }

    private static void refusedInANewAxis() {
        DUE.sentence("A method that returns an error code changes nothing: of a new object");
        String[] state = {"setLoad 0 -1", "setComb 0 100", "run 1", "run 8", "home 0", "home 1", "check 0", "check 1",
            "back 0", "back 1", "undo"};
        for (String call : state) {
            DUE.refused(new String[0], call, "STATE");
        }
        String[] none = {"command 0 0", "command 0 1", "flag 0", "flag 1"};
        for (String call : none) {
            DUE.refused(new String[0], call, "NONE");
        }
    }

    private static void refusedInABareAxis() {
        DUE.sentence("A method that returns an error code changes nothing: with a text and a saved state");
        String[] before = {"moveTo 40", "keep 0", "moveTo 80", "type l1:2;x", "correct -9999"};
        String[] state = {"setLoad 0 -1", "setComb 0 100", "run 1", "home 0", "check 1", "back 1"};
        for (String call : state) {
            DUE.refused(before, call, "STATE");
        }
        DUE.refused(before, "load", "error 5");
    }

    private static void lookingChangesNothing() {
        DUE.sentence("looking; reasons, and what would be (nothing changes)");
        for (int what = 0; what <= 20; what++) {
            DUE.onlyLooks(full(), "count " + what, value(full(), "count " + what));
        }
        String[] calls = {"account 0", "account 5", "loadAt 10", "errorAt 10", "command 0 0", "command 7 1", "flag 0",
            "flag 1", "why 0", "why 20000", "why -20000", "losses -200 1", "losses 200 1000", "fastest 0",
            "counter 0", "counter 1"};
        for (String call : calls) {
            DUE.onlyLooks(full(), call, value(full(), call));
        }
        DUE.run("setNumber 1 0", "setLoad 0 1", "why 64 = 4", "losses 64 5 = 64", "fastest 64 = NONE",
            "count 2 = 100", "count 1 = 0", "count 3 = 10", "account 0 = 0", "account 1 = 0", "account 2 = 0",
            "count 9 = 0");
    }

    private static int value(String[] before, String call) {
        FeedAxis axis = new FeedAxis();
        for (String line : before) {
            Lines.make(axis, line);
        }
        return Lines.make(axis, call);
    }

    private static void firstNamedCode() {
        DUE.sentence("If several error codes apply, the one that is named first .. is returned; NONE only if "
            + "none does");
        DUE.refused(full(), "setLoad 20001 -1", "INVALID");
        DUE.refused(full(), "setLoad 5 201", "INVALID");
        DUE.refused(full(), "setComb 20001 100", "INVALID");
        DUE.refused(full(), "setComb 5 101", "INVALID");
        DUE.refused(full(), "appendCharacter 999", "INVALID");
        DUE.refused(full(), "addCommand 5 10", "INVALID");
        DUE.refused(full(), "losses -20000 0", "INVALID");
        DUE.refused(full(), "losses -20000 1001", "INVALID");
        DUE.refused(full(), "command 8 2", "INVALID");
        DUE.run("run 9 = INVALID", "run 0 = INVALID", "home 2 = INVALID", "check 2 = INVALID", "back 2 = INVALID",
            "flag 2 = INVALID", "command 0 2 = INVALID", "command -1 0 = INVALID");
    }

    private static void farNumbers() {
        DUE.sentence("INVALID_ARGUMENT: An argument is out of range: the farthest that there are");
        String[] calls = {"setNumber # 1", "setNumber 0 #", "setNumber 1 #", "setLoad # 1", "setLoad 0 #",
            "setComb # 1",
            "setComb 0 #", "setFlag # 0", "setFlag 0 #", "setFlag # #", "appendCharacter #", "moveTo #",
            "addCommand # 1",
            "addCommand 1 #", "run #", "home #", "check #", "correct #", "keep #", "back #", "count #", "account #",
            "loadAt #", "errorAt #", "command 0 #", "flag #", "why #", "losses # 1", "losses 0 #", "fastest #",
            "counter #"};
        String[] far = {"MIN", "MAX", "-2147483647", "2147483646", "-1073741824", "1073741824", "-65536", "65536",
            "-40000", "40000"};
        for (String call : calls) {
            for (String number : far) {
                DUE.run(call.replace("#", number) + " = INVALID", "count 19 = 0", "count 18 = 0", "count 20 = 0");
            }
        }
        DUE.run("command MIN 0 = INVALID", "command MAX 0 = NONE", "command -65536 0 = INVALID",
            "command 65536 0 = NONE", "setFlag MIN MAX = INVALID", "setFlag MAX MIN = INVALID", "flag 0 = NONE");
    }
}
