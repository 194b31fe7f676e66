/** Promises 1 to 8: a new object, and what is told. */
public final class TellingTest {
    private static final int INVALID = -1000001;
    private static final int STATE = -1000002;
    private static final int FULL = -1000003;
    private static final int NONE = -1000009;
    private static final int ERROR = -2000000;

    private static final Due DUE = new Due("TellingTest");

    public static void main(String[] args) {
        promise1NewObject();
        promise2SetNumber();
        promise2SavesAState();
        promise3SetLoad();
        promise4SetComb();
        promise5SetFlag();
        promise6AppendCharacter();
        promise7ClearText();
        promise8LoadSets();
        promise8LoadTakesSpacesAndSigns();
        promise8LoadTellsErrors();
        promise8LoadTellsNumberErrors();
        promise8LoadTellsFlagErrors();
        promise8LoadTellsTooManyPoints();
        promise8LoadChangesNothingOnError();
        promise8LoadSavesAState();
        DUE.end();
    }

    private static void promise1NewObject() {
        FeedAxis x = new FeedAxis();
        int[] counts = {4, 100, 100, 10, 0, 0, 0, 0, 0, 0, 0, 0, 90, 0, 0, 0, 0, 0, 0, 0, 0};
        for (int i = 0; i < counts.length; i++) {
            DUE.is("new count(" + i + ")", x.count(i), counts[i]);
        }
        for (int i = 0; i < 6; i++) {
            DUE.is("new account(" + i + ")", x.account(i), 0);
        }
        DUE.is("new loadAt(0)", x.loadAt(0), 0);
        DUE.is("new errorAt(0)", x.errorAt(0), 0);
        DUE.is("new command(0, 0)", x.command(0, 0), NONE);
        DUE.is("new flag(0)", x.flag(0), NONE);
        DUE.is("new back(0)", x.back(0), STATE);
        DUE.is("new back(1)", x.back(1), STATE);
        DUE.is("new undo()", x.undo(), STATE);
        DUE.is("new run(1)", x.run(1), STATE);
        DUE.is("new home(0)", x.home(0), STATE);
        DUE.is("new check(1)", x.check(1), STATE);
        DUE.is("new clearText()", x.clearText(), 0);
        FeedAxis other = new FeedAxis();
        other.setNumber(0, 16);
        DUE.is("objects apart: count(0)", x.count(0), 4);
    }

    private static void promise2SetNumber() {
        FeedAxis x = new FeedAxis();
        int[] first = {4, 100, 100, 10, 0, 0};
        int[] least = {1, 0, 1, 0, 0, 0};
        int[] greatest = {16, 200, 1000, 100, 50, 50};
        for (int what = 0; what < 6; what++) {
            String call = "setNumber(" + what + ", ..)";
            DUE.is(call + " below", x.setNumber(what, least[what] - 1), INVALID);
            DUE.is(call + " above", x.setNumber(what, greatest[what] + 1), INVALID);
            DUE.is(call + " unchanged", x.count(what), first[what]);
            DUE.is(call + " least", x.setNumber(what, least[what]), first[what]);
            DUE.is(call + " told", x.count(what), least[what]);
            DUE.is(call + " greatest", x.setNumber(what, greatest[what]), least[what]);
            DUE.is(call + " told", x.count(what), greatest[what]);
            DUE.is(call + " far below", x.setNumber(what, Integer.MIN_VALUE), INVALID);
            DUE.is(call + " far above", x.setNumber(what, Integer.MAX_VALUE), INVALID);
        }
        for (int value = -1; value <= 33; value++) {
            boolean fits = value == 1 || value == 2 || value == 4 || value == 8 || value == 16;
            int previous = x.count(0);
            DUE.is("setNumber(0, " + value + ")", x.setNumber(0, value), fits ? previous : INVALID);
            DUE.is("s after it", x.count(0), fits ? value : previous);
        }
        DUE.is("setNumber(-1, 0)", x.setNumber(-1, 0), INVALID);
        DUE.is("setNumber(-1, 1)", x.setNumber(-1, 1), INVALID);
        DUE.is("setNumber(6, 0)", x.setNumber(6, 0), INVALID);
        DUE.is("setNumber(6, 1)", x.setNumber(6, 1), INVALID);
        DUE.is("setNumber(MIN, 1)", x.setNumber(Integer.MIN_VALUE, 1), INVALID);
        DUE.is("setNumber(MAX, 1)", x.setNumber(Integer.MAX_VALUE, 1), INVALID);
    }

    private static void promise2SavesAState() {
        FeedAxis x = new FeedAxis();
        x.setNumber(6, 0);
        DUE.is("no state saved by a wrong setNumber", x.count(19), 0);
        x.setNumber(1, 100);
        DUE.is("a state saved, though the value is the same", x.count(19), 1);
        x.setNumber(1, 7);
        DUE.is("undo() of setNumber", x.undo(), 1);
        DUE.is("t again", x.count(1), 100);
        x.setNumber(4, 20);
        DUE.is("the table does not follow yet", x.count(8), 0);
    }

    private static void promise3SetLoad() {
        FeedAxis x = new FeedAxis();
        DUE.is("setLoad(-20001, 1)", x.setLoad(-20001, 1), INVALID);
        DUE.is("setLoad(20001, 1)", x.setLoad(20001, 1), INVALID);
        DUE.is("setLoad(0, -2)", x.setLoad(0, -2), INVALID);
        DUE.is("setLoad(0, 201)", x.setLoad(0, 201), INVALID);
        DUE.is("setLoad(20001, -1)", x.setLoad(20001, -1), INVALID);
        DUE.is("setLoad(0, -1) without it", x.setLoad(0, -1), STATE);
        DUE.is("no state saved", x.count(19), 0);
        DUE.is("setLoad(20000, 200)", x.setLoad(20000, 200), -1);
        DUE.is("setLoad(-20000, 0)", x.setLoad(-20000, 0), -1);
        DUE.is("setLoad(-20000, 5)", x.setLoad(-20000, 5), 0);
        DUE.is("loadAt(19999)", x.loadAt(19999), 5);
        DUE.is("loadAt(20000)", x.loadAt(20000), 200);
        DUE.is("count(15)", x.count(15), 2);
        for (int i = 0; i < 8; i++) {
            DUE.is("load " + i, x.setLoad(70 - 10 * i, i), -1);
        }
        DUE.is("count(15) full", x.count(15), 10);
        DUE.is("an 11th load", x.setLoad(5, 1), FULL);
        DUE.is("an 11th load out of range", x.setLoad(5, 201), INVALID);
        DUE.is("removing where there is none", x.setLoad(5, -1), STATE);
        DUE.is("another value at one of ten", x.setLoad(40, 99), 3);
        DUE.is("loadAt(49)", x.loadAt(49), 99);
        DUE.is("loadAt(50)", x.loadAt(50), 2);
        DUE.is("removing", x.setLoad(40, -1), 99);
        DUE.is("loadAt(49) then", x.loadAt(49), 4);
        DUE.is("count(15) then", x.count(15), 9);
        DUE.is("room again", x.setLoad(5, 77), -1);
        DUE.is("loadAt(9)", x.loadAt(9), 77);
        DUE.is("loadAt(10)", x.loadAt(10), 6);
        DUE.is("six states saved", x.count(19), 6);
        x.undo();
        DUE.is("undo of setLoad", x.loadAt(9), 7);
        DUE.is("undo of setLoad: count(15)", x.count(15), 9);
    }

    private static void promise4SetComb() {
        FeedAxis x = new FeedAxis();
        DUE.is("setComb(-20001, 1)", x.setComb(-20001, 1), INVALID);
        DUE.is("setComb(20001, 1)", x.setComb(20001, 1), INVALID);
        DUE.is("setComb(0, -100)", x.setComb(0, -100), INVALID);
        DUE.is("setComb(0, 101)", x.setComb(0, 101), INVALID);
        DUE.is("setComb(20001, 100)", x.setComb(20001, 100), INVALID);
        DUE.is("setComb(0, 100) without it", x.setComb(0, 100), STATE);
        DUE.is("no state saved", x.count(19), 0);
        DUE.is("setComb(20000, 99)", x.setComb(20000, 99), 100);
        DUE.is("setComb(-20000, -99)", x.setComb(-20000, -99), 100);
        DUE.is("setComb(-20000, -1)", x.setComb(-20000, -1), -99);
        DUE.is("count(16)", x.count(16), 2);
        for (int i = 0; i < 8; i++) {
            DUE.is("comb point " + i, x.setComb(10 * i, i), 100);
        }
        DUE.is("count(16) full", x.count(16), 10);
        DUE.is("an 11th comb point", x.setComb(5, 1), FULL);
        DUE.is("an 11th comb point out of range", x.setComb(5, 101), INVALID);
        DUE.is("removing where there is none", x.setComb(5, 100), STATE);
        DUE.is("another error at one of ten", x.setComb(40, 0), 4);
        DUE.is("errorAt(40)", x.errorAt(40), 0);
        DUE.is("removing", x.setComb(40, 100), 0);
        DUE.is("count(16) then", x.count(16), 9);
        DUE.is("errorAt(40) then", x.errorAt(40), 4);
        DUE.is("room again", x.setComb(5, 50), 100);
        DUE.is("errorAt(5)", x.errorAt(5), 50);
        DUE.is("loads apart: count(15)", x.count(15), 0);
        x.undo();
        DUE.is("undo of setComb", x.errorAt(5), 0);
    }

    private static void promise5SetFlag() {
        FeedAxis x = new FeedAxis();
        DUE.is("setFlag(-20001, 0)", x.setFlag(-20001, 0), INVALID);
        DUE.is("setFlag(0, 20001)", x.setFlag(0, 20001), INVALID);
        DUE.is("setFlag(5, 5)", x.setFlag(5, 5), INVALID);
        DUE.is("setFlag(5, 4)", x.setFlag(5, 4), INVALID);
        DUE.is("setFlag(20000, 20000)", x.setFlag(20000, 20000), INVALID);
        DUE.is("setFlag(20000, 20001)", x.setFlag(20000, 20001), INVALID);
        DUE.is("setFlag(-20001, -20000)", x.setFlag(-20001, -20000), INVALID);
        DUE.is("setFlag(MIN, MAX)", x.setFlag(Integer.MIN_VALUE, Integer.MAX_VALUE), INVALID);
        DUE.is("setFlag(MAX, MIN)", x.setFlag(Integer.MAX_VALUE, Integer.MIN_VALUE), INVALID);
        DUE.is("no flag yet", x.flag(0), NONE);
        DUE.is("no state saved", x.count(19), 0);
        DUE.is("setFlag(-20000, 20000)", x.setFlag(-20000, 20000), 0);
        DUE.is("flag(0)", x.flag(0), -20000);
        DUE.is("flag(1)", x.flag(1), 20000);
        DUE.is("setFlag(5, 6)", x.setFlag(5, 6), 1);
        DUE.is("flag(0)", x.flag(0), 5);
        DUE.is("flag(1)", x.flag(1), 6);
        DUE.is("undo of setFlag", x.undo(), 1);
        DUE.is("flag(0) again", x.flag(0), -20000);
        DUE.is("undo of setFlag", x.undo(), 0);
        DUE.is("no flag again", x.flag(0), NONE);
        DUE.is("setFlag(19999, 20000)", x.setFlag(19999, 20000), 0);
    }

    private static void promise6AppendCharacter() {
        FeedAxis x = new FeedAxis();
        DUE.is("appendCharacter(-1)", x.appendCharacter(-1), INVALID);
        DUE.is("appendCharacter(256)", x.appendCharacter(256), INVALID);
        DUE.is("the text is empty", x.count(18), 0);
        DUE.is("appendCharacter(0)", x.appendCharacter(0), 1);
        DUE.is("appendCharacter(255)", x.appendCharacter(255), 2);
        for (int i = 2; i < 100; i++) {
            DUE.is("appendCharacter(32)", x.appendCharacter(32), i + 1);
        }
        DUE.is("a 101st character", x.appendCharacter(32), FULL);
        DUE.is("a 101st character out of range", x.appendCharacter(256), INVALID);
        DUE.is("count(18)", x.count(18), 100);
        DUE.is("no state saved", x.count(19), 0);
        DUE.is("character 0 is not allowed", x.load(), ERROR);
    }

    private static void promise7ClearText() {
        FeedAxis x = new FeedAxis();
        DUE.is("clearText() of nothing", x.clearText(), 0);
        Due.type(x, "abc");
        DUE.is("clearText()", x.clearText(), 3);
        DUE.is("count(18)", x.count(18), 0);
        DUE.is("no state saved", x.count(19), 0);
        Due.type(x, "l1:2;");
        DUE.is("the text begins anew", x.load(), 1);
        DUE.is("loadAt(1)", x.loadAt(1), 2);
    }

    private static void promise8LoadSets() {
        FeedAxis x = new FeedAxis();
        x.setLoad(3, 8);
        x.setLoad(4, 9);
        x.setComb(7, 70);
        DUE.is("items", Due.loading(x, "l3:10;c-20000:-99;f-20000:20000;l20000:200;c0:99;l0:0;"), 6);
        DUE.is("loadAt(3), in place of 8", x.loadAt(3), 10);
        DUE.is("loadAt(4), beside the text", x.loadAt(4), 9);
        DUE.is("loadAt(20000)", x.loadAt(20000), 200);
        DUE.is("count(15)", x.count(15), 4);
        DUE.is("errorAt(-20000)", x.errorAt(-20000), -99);
        DUE.is("errorAt(7), beside the text", x.errorAt(7), 70);
        DUE.is("count(16)", x.count(16), 3);
        DUE.is("flag(0)", x.flag(0), -20000);
        DUE.is("flag(1)", x.flag(1), 20000);
        DUE.is("a later item in place of an earlier one", Due.loading(x, "l5:1;f1:2;l5:2;f3:4;"), 4);
        DUE.is("loadAt(5)", x.loadAt(5), 2);
        DUE.is("flag(0)", x.flag(0), 3);
        DUE.is("flag(1)", x.flag(1), 4);
        Due.type(x, "l5:3;");
        x.load();
        DUE.is("the text becomes empty", x.count(18), 0);
        DUE.is("a text of no items", x.load(), 0);
        DUE.is("a text of spaces", Due.loading(x, "   "), 0);
    }

    private static void promise8LoadTakesSpacesAndSigns() {
        FeedAxis x = new FeedAxis();
        DUE.is("spaces", Due.loading(x, "  l  -  7  :  20  ;  c  -  3  :  -  4  ;  f  -  9  :  -  8  ; "), 3);
        DUE.is("loadAt(-7)", x.loadAt(-7), 20);
        DUE.is("loadAt(-8)", x.loadAt(-8), 0);
        DUE.is("errorAt(-3)", x.errorAt(-3), -4);
        DUE.is("flag(0)", x.flag(0), -9);
        DUE.is("flag(1)", x.flag(1), -8);
        DUE.is("minus zero", Due.loading(x, "l-0:0;c-0:-0;f-1:-0;"), 3);
        DUE.is("loadAt(0)", x.loadAt(0), 0);
        DUE.is("flag(1)", x.flag(1), 0);
    }

    private static void promise8LoadTellsErrors() {
        FeedAxis x = new FeedAxis();
        String[] texts = {
            "x", "L1:2;", ";", "l1:2;x", "l1:2;;", " :", "1", "lx", "l:1;", "l1;", "l1x", "l1:x", "l1:;",
            "l1:2x", "l1:2:", "l1 2:3;", "l1:2 3;", "l--1:2;", "l1-:2;", "l1:-2;", "l+1:2;", "l1:- 2;",
            "c1:--2;", "c- -1:2;", "f1:2:3;", "l1:2,", "l1\t:2;", "c0 5:1;", "l0 0:1;",
        };
        int[] wrong = {
            0, 0, 0, 5, 5, 1, 0, 1, 1, 2, 2, 3, 3,
            4, 4, 3, 5, 2, 2, 3, 1, 3,
            4, 3, 4, 4, 2, 3, 3,
        };
        for (int i = 0; i < texts.length; i++) {
            DUE.is("load() of " + texts[i], Due.loading(x, texts[i]), ERROR - wrong[i]);
        }
        String whole = "f- 12 : - 5 ; ";
        for (int length = 1; length <= 12; length++) {
            String part = whole.substring(0, length);
            DUE.is("load() of " + part, Due.loading(x, part), ERROR - length);
        }
        DUE.is("load() of the whole item", Due.loading(x, whole.substring(0, 13)), 1);
        DUE.is("load() with a space behind it", Due.loading(x, whole), 1);
    }

    private static void promise8LoadTellsNumberErrors() {
        FeedAxis x = new FeedAxis();
        String[] texts = {
            "l20001:1;", "l-20001:1;", "c20001:1;", "f20001:1;", "f-20001:1;", "l1:201;", "c1:100;", "c1:-100;",
            "l01:1;", "l00:1;", "l-01:1;", "l1:01;", "l1:000000;", "c1:-01;", "f01:2;", "f1:02;",
            "l123456:1;", "l-123456:1;", "l200000:1;", "l200010:1;", "l999999:1;", "l012345:1;", "l99999",
            "l20001", "l20001x", "l01x", "l01", "l1:201", "l1:201x", "l1:2000000;", "l1:99999", "l1:201 5;",
            "f1:123456;", "f1:200000;", "f1:200001;", "f1:20001;", "l - 20001:1;", "l0:1;l00:1;", "l0", "l10:010;",
        };
        int[] wrong = {
            1, 2, 1, 1, 2, 3, 3, 4,
            1, 1, 2, 3, 3, 4, 1, 3,
            6, 7, 6, 1, 1, 1, 1,
            1, 1, 1, 1, 3, 3, 3, 3, 3,
            8, 8, 8, 3, 4, 6, 2, 4,
        };
        for (int i = 0; i < texts.length; i++) {
            DUE.is("load() of " + texts[i], Due.loading(x, texts[i]), ERROR - wrong[i]);
        }
        DUE.is("the ends of the ranges", Due.loading(x, "l20000:200;l-20000:0;c20000:99;c-20000:-99;"), 4);
        DUE.is("a flag over all", Due.loading(x, "f-20000:20000;"), 1);
    }

    private static void promise8LoadTellsFlagErrors() {
        FeedAxis x = new FeedAxis();
        DUE.is("f5:5;", Due.loading(x, "f5:5;"), ERROR - 3);
        DUE.is("f5:4;", Due.loading(x, "f5:4;"), ERROR - 3);
        DUE.is("f5:-6;", Due.loading(x, "f5:-6;"), ERROR - 4);
        DUE.is("f5:4", Due.loading(x, "f5:4"), ERROR - 3);
        DUE.is("f5:4x", Due.loading(x, "f5:4x"), ERROR - 3);
        DUE.is("f20000:20000;", Due.loading(x, "f20000:20000;"), ERROR - 7);
        DUE.is("f-5:-6;", Due.loading(x, "f-5:-6;"), ERROR - 5);
        DUE.is("f-5:-20001;", Due.loading(x, "f-5:-20001;"), ERROR - 5);
        DUE.is("f5:6;", Due.loading(x, "f5:6;"), 1);
        DUE.is("f19999:20000;", Due.loading(x, "f19999:20000;"), 1);
    }

    private static void promise8LoadTellsTooManyPoints() {
        FeedAxis x = new FeedAxis();
        for (int i = 0; i < 9; i++) {
            x.setLoad(100 + i, 1);
            x.setComb(100 + i, 1);
        }
        DUE.is("an 11th load", Due.loading(x, "l1:5; l2:5;"), ERROR - 6);
        DUE.is("the 10th is not set either", x.count(15), 9);
        DUE.is("an 11th comb point", Due.loading(x, "c1:5;l1:5;c2:5;"), ERROR - 10);
        DUE.is("neither is set", x.count(15) + x.count(16), 18);
        DUE.is("what is wrong before the ';' comes first", Due.loading(x, "l1:5;l2:201;"), ERROR - 8);
        DUE.is("what is wrong at the ';' comes first", Due.loading(x, "l1:5;l2:20:"), ERROR - 10);
        DUE.is("the ';' is missing", Due.loading(x, "l1:5;l2:20 "), ERROR - 11);
        DUE.is("what is wrong behind it comes later", Due.loading(x, "l1:5;l2:20;x"), ERROR - 5);
        DUE.is("one at a place that is there", Due.loading(x, "l1:5;l1:6;l108:7;c1:5;"), 4);
        DUE.is("loadAt(1)", x.loadAt(1), 6);
        DUE.is("loadAt(108)", x.loadAt(108), 7);
        DUE.is("count(15)", x.count(15), 10);
        DUE.is("a full table and a new place", Due.loading(x, "l108:8;l2:5;"), ERROR - 7);
        DUE.is("loadAt(108) unchanged", x.loadAt(108), 7);
        FeedAxis y = new FeedAxis();
        String ten = "l0:1;l1:1;l2:1;l3:1;l4:1;l5:1;l6:1;l7:1;l8:1;l9:1;";
        DUE.is("eleven by the text alone", Due.loading(y, ten + "l-1:1;"), ERROR - 50);
        DUE.is("ten by the text", Due.loading(y, ten + "c9:1;"), 11);
        DUE.is("count(15)", y.count(15), 10);
    }

    private static void promise8LoadChangesNothingOnError() {
        FeedAxis x = new FeedAxis();
        Due.type(x, "l1:5;c1:5;f1:5;x");
        DUE.is("load() with an error", x.load(), ERROR - 15);
        DUE.is("the text is kept", x.count(18), 16);
        DUE.is("no load", x.count(15), 0);
        DUE.is("no comb point", x.count(16), 0);
        DUE.is("no flag", x.flag(0), NONE);
        DUE.is("no state saved", x.count(19), 0);
        DUE.is("the same error again", x.load(), ERROR - 15);
        DUE.is("clearText()", x.clearText(), 16);
    }

    private static void promise8LoadSavesAState() {
        FeedAxis x = new FeedAxis();
        Due.type(x, "l1:5;");
        x.load();
        DUE.is("a state saved", x.count(19), 1);
        x.load();
        DUE.is("a state saved by an empty text", x.count(19), 2);
        Due.type(x, "l1");
        DUE.is("undo()", x.undo(), 1);
        DUE.is("undo()", x.undo(), 0);
        DUE.is("the load is gone", x.count(15), 0);
        DUE.is("the text is no part of the state", x.count(18), 2);
    }
}
