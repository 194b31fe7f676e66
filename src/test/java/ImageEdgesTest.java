/** Each sentence of 'Undo and images' that names a boundary: promises 15 to 17, and the last calls of an object. */
public final class ImageEdgesTest {
    private static final Due DUE = new Due("ImageEdgesTest");

    public static void main(String[] args) {
        twoImages();
        imagesEmptyAtFirst();
        imagesAsABitMask();
        keepInPlaceOfWhatItKept();
        keepTellsItsCounter();
        keepSavesNoState();
        backRange();
        backOfNothing();
        backErrorsInTheirOrder();
        backTellsTheCounter();
        backLeavesTheImage();
        backLeavesTextImagesAndSavedStates();
        imageKeepsEverythingElse();
        eachOfTwelveCallsSaves();
        otherCallsSaveNothing();
        refusedCallsSaveNothing();
        seventhSavedState();
        sixSavedStates();
        undoOfNothing();
        undoDiscards();
        undoLeavesTextAndImages();
        undoOfUndoIsNone();
        savedStatesRoundAndRound();
        fiveHundredAndTwelveCalls();
        DUE.end();
    }

    private static void twoImages() {
        DUE.sentence("keep: image 0 or 1; INVALID_ARGUMENT if there is no such image");
        DUE.run("keep -1 = INVALID", "keep 2 = INVALID", "keep 3 = INVALID", "keep 31 = INVALID",
            "keep 32 = INVALID", "keep 33 = INVALID", "keep MIN = INVALID", "keep MAX = INVALID", "count 20 = 0",
            "keep 0 = 0", "keep 1 = 0", "count 20 = 3");
        DUE.refused(new String[] {"moveTo 40", "keep 0", "moveTo 80"}, "keep 2", "INVALID");
        DUE.refused(new String[] {"moveTo 40", "keep 1", "moveTo 80"}, "keep -1", "INVALID");
    }

    private static void imagesEmptyAtFirst() {
        DUE.sentence("There are 2 images, empty at first");
        DUE.run("count 20 = 0", "back 0 = STATE", "back 1 = STATE", "count 19 = 0");
    }

    private static void imagesAsABitMask() {
        DUE.sentence("20 the images that keep something, as a bit mask");
        DUE.run("keep 0 = 0", "count 20 = 1", "keep 0 = 0", "count 20 = 1", "keep 1 = 0", "count 20 = 3",
            "back 0 = 0", "back 1 = 0", "count 20 = 3");
        DUE.run("keep 1 = 0", "count 20 = 2", "keep 1 = 0", "count 20 = 2", "keep 0 = 0", "count 20 = 3");
    }

    private static void keepInPlaceOfWhatItKept() {
        DUE.sentence("Keeps the state in an image, in place of what it kept");
        DUE.run("moveTo 40", "keep 0 = 40", "keep 1 = 40", "moveTo 80", "keep 0 = 80", "moveTo 120", "back 0 = 80",
            "back 1 = 40", "count 6 = 40");
        DUE.run("moveTo 40", "keep 0 = 40", "keep 1 = 40", "moveTo 80", "keep 1 = 80", "moveTo 120", "back 0 = 40",
            "back 1 = 80", "count 6 = 80");
    }

    private static void keepTellsItsCounter() {
        DUE.sentence("keep: Returns its counter");
        DUE.run("keep 0 = 0", "correct 7", "keep 0 = -7", "moveTo 40", "keep 1 = 37", "back 0 = -7", "keep 1 = -7");
    }

    private static void keepSavesNoState() {
        DUE.sentence("Every successful call of .. (keep() is none of them) .. saves the state");
        DUE.run("keep 0 = 0", "keep 1 = 0", "count 19 = 0", "undo = STATE", "moveTo 40", "keep 0 = 40",
            "count 19 = 1", "undo = 0", "count 6 = 0");
    }

    private static void backRange() {
        DUE.sentence("back: image 0 or 1; INVALID_ARGUMENT if there is no such image");
        DUE.run("keep 0", "keep 1", "back -1 = INVALID", "back 2 = INVALID", "back 3 = INVALID",
            "back 32 = INVALID", "back 33 = INVALID", "back MIN = INVALID", "back MAX = INVALID", "count 19 = 0",
            "back 0 = 0", "back 1 = 0", "count 19 = 2");
        DUE.refused(new String[] {"moveTo 40", "keep 0", "keep 1", "moveTo 80"}, "back 2", "INVALID");
        DUE.refused(new String[] {"moveTo 40", "keep 0", "keep 1", "moveTo 80"}, "back -1", "INVALID");
    }

    private static void backOfNothing() {
        DUE.sentence("back: ILLEGAL_STATE if it keeps nothing");
        DUE.run("back 0 = STATE", "back 1 = STATE", "keep 0", "back 1 = STATE", "back 0 = 0", "count 19 = 1");
        DUE.run("keep 1", "back 0 = STATE", "back 1 = 0", "count 19 = 1");
        DUE.refused(new String[] {"moveTo 40", "keep 0", "moveTo 80"}, "back 1", "STATE");
        DUE.refused(new String[] {"moveTo 40", "keep 1", "moveTo 80"}, "back 0", "STATE");
    }

    private static void backErrorsInTheirOrder() {
        DUE.sentence("back: INVALID_ARGUMENT, then ILLEGAL_STATE");
        DUE.run("back 2 = INVALID", "back -1 = INVALID", "back 0 = STATE");
    }

    private static void backTellsTheCounter() {
        DUE.sentence("back: Returns the counter then");
        DUE.run("correct 5", "keep 0 = -5", "moveTo 40", "keep 1 = 39", "moveTo 0", "back 0 = -5", "back 1 = 39",
            "count 6 = 39");
    }

    private static void backLeavesTheImage() {
        DUE.sentence("The image stays");
        DUE.run("moveTo 40", "keep 0", "moveTo 80", "back 0 = 40", "moveTo 120", "setLoad 5 5", "back 0 = 40",
            "count 15 = 0", "moveTo 160", "back 0 = 40", "count 20 = 1", "undo", "undo", "undo", "back 0 = 40");
    }

    private static void backLeavesTextImagesAndSavedStates() {
        DUE.sentence("a state that is everything but the text, the images and the saved states");
        DUE.run("moveTo 4", "keep 0", "type l1:2;", "moveTo 8", "moveTo 12", "keep 1", "count 19 = 3", "back 0 = 4",
            "count 18 = 5", "count 20 = 3", "count 19 = 4", "load = 1", "loadAt 1 = 2", "undo = 4", "undo = 3",
            "count 6 = 12", "undo = 2", "count 6 = 8", "undo = 1", "count 6 = 4");
        DUE.run("type l1:2;", "keep 0", "clearText", "back 0 = 0", "count 18 = 0");
    }

    private static void imageKeepsEverythingElse() {
        DUE.sentence("a state that is everything but the text, the images and the saved states");
        String[][] parts = {
            {"setNumber 0 8", "count 0 = 8", "count 0 = 4"}, {"setNumber 1 7", "count 1 = 7", "count 1 = 100"},
            {"setNumber 2 7", "count 2 = 7", "count 2 = 100"}, {"setNumber 3 7", "count 3 = 7", "count 3 = 10"},
            {"setNumber 4 7", "count 4 = 7", "count 4 = 0"}, {"setNumber 5 7", "count 5 = 7", "count 5 = 0"},
            {"setLoad 3 7", "loadAt 3 = 7", "loadAt 3 = 0"}, {"setLoad 3 7", "count 15 = 1", "count 15 = 0"},
            {"setComb 3 7", "errorAt 3 = 7", "errorAt 3 = 0"}, {"setComb 3 7", "count 16 = 1", "count 16 = 0"},
            {"setFlag 3 7", "flag 0 = 3", "flag 0 = NONE"}, {"setFlag 3 7", "flag 1 = 7", "flag 1 = NONE"},
            {"addCommand 3 7", "command 0 0 = 3", "command 0 0 = NONE"},
            {"addCommand 3 7", "command 0 1 = 7", "command 0 1 = NONE"},
            {"moveTo 8", "count 6 = 8", "count 6 = 0"}, {"moveTo 8", "count 7 = 8", "count 7 = 0"},
            {"moveTo 8", "count 8 = 8", "count 8 = 0"}, {"moveTo 8", "account 0 = 2", "account 0 = 0"},
            {"moveTo 8", "account 4 = 8", "account 4 = 0"}, {"correct 8", "count 11 = -8", "count 11 = 0"},
            {"correct 8", "count 6 = -8", "count 6 = 0"},
        };
        for (String[] part : parts) {
            DUE.run("keep 0", part[0], part[1], "keep 1", "back 0 = 0", part[2], "back 1", part[1], "undo = 2",
                part[2], "undo = 1", part[1], "undo = 0", part[2]);
        }
        String[] stalls = {"setNumber 1 0", "setLoad 0 1", "keep 0"};
        String[] lost = {"moveTo 36", "moveTo 12", "moveTo 16"};
        DUE.run(stalls[0], stalls[1], stalls[2], lost[0], lost[1], lost[2], "keep 1", "count 9 = 16",
            "count 10 = 0", "account 1 = 16", "account 2 = 1", "account 3 = 1", "moveTo 32 = 64", "back 1 = 16",
            "count 9 = 16", "count 10 = 0", "account 1 = 16", "account 2 = 1", "account 3 = 1", "back 0 = 0",
            "count 9 = 0", "account 1 = 0", "account 2 = 0", "account 3 = 0", "undo = 5", "count 9 = 16",
            "undo = 4", "count 9 = -32");
        DUE.run("setFlag 3 7", "keep 0", "home 0", "account 5 = 1", "back 0", "account 5 = 0", "undo",
            "account 5 = 1");
    }

    private static void eachOfTwelveCallsSaves() {
        DUE.sentence("Every successful call of setNumber() .. and back() saves the state that preceded it");
        String[] calls = {
            "setNumber 1 50", "setLoad 60 6", "setLoad 10 -1", "setComb 60 6", "setComb 10 100", "setFlag 1 2",
            "load",
            "moveTo 80", "addCommand 60 6", "run 1", "home 0", "home 1", "check 0", "check 1", "correct 3",
            "correct 0",
            "back 0", "setNumber 1 100", "setLoad 10 5", "setComb 10 0", "moveTo 0",
        };
        for (String call : calls) {
            DUE.run("setLoad 10 5", "setComb 10 0", "setFlag -9 9", "addCommand 20 2", "keep 0", "count 19 = 4", call,
                "count 19 = 5", "undo = 4", "count 1 = 100", "loadAt 10 = 5", "loadAt 60 = 5", "errorAt 10 = 0",
                "errorAt 60 = 0", "flag 0 = -9", "count 6 = 0", "count 17 = 1",
                "command 0 0 = 20", "command 0 1 = 2", "count 11 = 0", "account 5 = 0",
                "undo = 3", "count 17 = 0", "undo = 2", "flag 0 = NONE");
        }
    }

    private static void otherCallsSaveNothing() {
        DUE.sentence("Every successful call of .. saves: the calls that are not named don't");
        DUE.run("type l1:2;", "count 19 = 0", "clearText = 5", "count 19 = 0", "keep 0 = 0", "count 19 = 0",
            "moveTo 40", "count 19 = 1", "count 6", "account 0", "loadAt 0", "errorAt 0", "command 0 0", "flag 0",
            "why 80", "losses 80 10", "fastest 80", "counter 0", "count 19 = 1", "undo = 0", "count 19 = 0",
            "undo = STATE");
    }

    private static void refusedCallsSaveNothing() {
        DUE.sentence("Every successful call .. saves the state: a call that answers an error code saves none");
        DUE.run("moveTo 40", "setComb 20000 1", "count 19 = 2", "setNumber 0 3 = INVALID", "setLoad 0 -1 = STATE",
            "setLoad 0 201 = INVALID", "setComb 0 100 = STATE", "setComb 0 101 = INVALID", "setFlag 1 1 = INVALID",
            "type x", "load = error 0", "moveTo 20001 = INVALID", "moveTo 20000 = STATE", "addCommand 0 10 = INVALID",
            "run 0 = INVALID", "run 1 = STATE", "home 0 = STATE", "home 2 = INVALID", "check 0 = STATE",
            "check 2 = INVALID", "correct 10000 = INVALID", "keep 2 = INVALID", "back 0 = STATE", "back 2 = INVALID",
            "count 19 = 2", "undo = 1", "count 16 = 0", "undo = 0", "count 6 = 0");
    }

    private static void seventhSavedState() {
        DUE.sentence("At most 6 states are saved; when a seventh is saved, the oldest one is discarded");
        DUE.run("moveTo 4", "moveTo 8", "moveTo 12", "moveTo 16", "moveTo 20", "count 19 = 5", "moveTo 24",
            "count 19 = 6", "moveTo 28", "count 19 = 6", "undo = 5", "count 6 = 24", "undo = 4", "count 6 = 20",
            "undo = 3", "count 6 = 16", "undo = 2", "count 6 = 12", "undo = 1", "count 6 = 8", "undo = 0",
            "count 6 = 4", "undo = STATE", "count 6 = 4", "count 19 = 0");
    }

    private static void sixSavedStates() {
        DUE.sentence("At most 6 states are saved: six are");
        DUE.run("moveTo 4", "moveTo 8", "moveTo 12", "moveTo 16", "moveTo 20", "moveTo 24", "undo = 5",
            "count 6 = 20", "undo = 4", "undo = 3", "undo = 2", "undo = 1", "count 6 = 4", "undo = 0",
            "count 6 = 0", "undo = STATE");
    }

    private static void undoOfNothing() {
        DUE.sentence("undo: ILLEGAL_STATE if there is none");
        DUE.run("undo = STATE", "moveTo 4", "undo = 0", "undo = STATE", "undo = STATE", "moveTo 8 = 0", "undo = 0",
            "count 6 = 0");
        DUE.refused(new String[] {"keep 0", "type l1:2;"}, "undo", "STATE");
        DUE.refused(new String[] {"moveTo 4", "keep 1", "undo"}, "undo", "STATE");
    }

    private static void undoDiscards() {
        DUE.sentence("undo() restores the most recently saved state and discards it. Returns the number .. "
            + "still saved");
        DUE.run("moveTo 4", "moveTo 8", "undo = 1", "count 6 = 4", "count 19 = 1", "moveTo 12", "count 19 = 2",
            "undo = 1", "count 6 = 4", "undo = 0", "count 6 = 0", "count 19 = 0");
    }

    private static void undoLeavesTextAndImages() {
        DUE.sentence("a state that is everything but the text, the images and the saved states: undo()");
        DUE.run("moveTo 4", "type l1:2;", "keep 0", "moveTo 8", "keep 1", "undo = 1", "count 18 = 5", "count 20 = 3",
            "back 1 = 8", "back 0 = 4", "load = 1");
        DUE.run("type l1:2;", "load = 1", "undo = 0", "count 18 = 0", "count 15 = 0");
    }

    private static void undoOfUndoIsNone() {
        DUE.sentence("Every successful call of .. (undo() is none of them) .. saves the state");
        DUE.run("moveTo 4", "moveTo 8", "moveTo 12", "undo = 2", "undo = 1", "undo = 0", "undo = STATE",
            "count 6 = 0");
    }

    private static void savedStatesRoundAndRound() {
        DUE.sentence("At most 6 states are saved: however often some are saved and restored");
        FeedAxis x = new FeedAxis();
        int[] counters = new int[7];
        int saved = 0;
        int now = 0;
        for (int i = 1; i <= 40; i++) {
            for (int j = 0; j < i % 9; j++) {
                now += 4;
                x.moveTo(now);
                counters[saved] = now - 4;
                if (saved == 6) {
                    System.arraycopy(counters, 1, counters, 0, 6);
                } else {
                    saved++;
                }
            }
            for (int j = 0; j < i % 5 && saved > 0; j++) {
                saved--;
                now = counters[saved];
                DUE.is("undo() in round " + i, x.undo(), saved);
                DUE.is("counter in round " + i, x.count(6), now);
            }
            DUE.is("saved states in round " + i, x.count(19), saved);
        }
    }

    private static void fiveHundredAndTwelveCalls() {
        DUE.sentence("An object is used for at most 512 calls after it has been made: the last one answers, too");
        FeedAxis x = new FeedAxis();
        for (int i = 1; i <= 510; i++) {
            DUE.is("call " + i, x.moveTo(4 * i), 0);
        }
        DUE.is("call 511", x.undo(), 5);
        DUE.is("call 512", x.count(6), 4 * 509);
        FeedAxis y = new FeedAxis();
        y.setNumber(1, 0);
        y.setLoad(-20000, 1);
        y.setFlag(-10, 10);
        for (int i = 4; i < 512; i++) {
            DUE.is("call " + i, i % 2 == 0 ? y.home(0) : y.check(1), Lines.number("NONE"));
        }
        DUE.is("call 512", y.account(0), 0);
    }
}
