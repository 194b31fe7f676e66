/** Each sentence of the document that names a boundary of the text: promises 6 to 8, and 'Text'. */
public final class TextEdgesTest {
    private static final Due DUE = new Due("TextEdgesTest");
    private static final String TEN_LOADS = "l0:1;l1:1;l2:1;l3:1;l4:1;l5:1;l6:1;l7:1;l8:1;l9:1;";
    private static final String TEN_POINTS = TEN_LOADS.replace('l', 'c');

    public static void main(String[] args) {
        characterRange();
        atMostAHundredCharacters();
        textOfAHundredCharacters();
        clearTextTellsTheLength();
        emptyText();
        textOfSpaces();
        mostItems();
        itemKinds();
        eachItemEndsWithASemicolon();
        numberOfOneToFiveDigits();
        zeroAhead();
        sixthDigit();
        sixthDigitOfANumberOutOfRange();
        minusAtMostOnce();
        minusNotForLoads();
        minusZero();
        placeRange();
        loadRange();
        errorRange();
        flagSecondPlaceIsGreater();
        flagPlaceRange();
        spacesEverywhere();
        spacesNotWithinDigits();
        otherSignsAreNoSpaces();
        beside();
        inPlaceOf();
        outOfRangeIsItsFirstDigit();
        eleventhLoad();
        eleventhCombPoint();
        eleventhOnlyIfNothingStandsWrong();
        eleventhPlaceThatIsThere();
        textThatEnds();
        textThatEndsBehindAWrongNumber();
        firstErrorOnly();
        errorChangesNothing();
        textBecomesEmpty();
        loadSavesAState();
        DUE.end();
    }

    /** What load() answers to a text, by a new object. */
    private static void load(String text, String due) {
        if (text.isEmpty()) {
            DUE.run("load = " + due);
        } else {
            DUE.run("type " + text, "load = " + due);
        }
    }

    private static void characterRange() {
        DUE.sentence("character: character code, 0 to 255; INVALID_ARGUMENT if character is out of range");
        DUE.run("appendCharacter -1 = INVALID", "appendCharacter 256 = INVALID", "appendCharacter MIN = INVALID",
            "appendCharacter MAX = INVALID", "appendCharacter 364 = INVALID", "count 18 = 0", "appendCharacter 0 = 1",
            "appendCharacter 1 = 2", "appendCharacter 254 = 3", "appendCharacter 255 = 4", "count 18 = 4",
            "appendCharacter 256 = INVALID", "appendCharacter -1 = INVALID", "count 18 = 4");
        for (int code = 0; code <= 255; code++) {
            boolean begins = code == 'l' || code == 'c' || code == 'f' || code == ' ';
            String due = !begins ? "error 0" : code == ' ' ? "0" : "error 1";
            DUE.run("appendCharacter " + code + " = 1", "load = " + due);
        }
    }

    private static void atMostAHundredCharacters() {
        DUE.sentence("a text of at most 100 characters; CAPACITY_EXCEEDED if the text has 100 characters");
        DUE.run("type " + "x".repeat(98), "count 18 = 98", "appendCharacter 32 = 99", "appendCharacter 32 = 100",
            "appendCharacter 32 = FULL", "appendCharacter 0 = FULL", "appendCharacter 255 = FULL", "count 18 = 100",
            "appendCharacter -1 = INVALID", "appendCharacter 256 = INVALID", "clearText = 100", "count 18 = 0",
            "appendCharacter 32 = 1");
        String[] full = {"type l1:2;" + " ".repeat(95)};
        DUE.refused(full, "appendCharacter 120", "FULL");
        DUE.refused(full, "appendCharacter 256", "INVALID");
    }

    private static void textOfAHundredCharacters() {
        DUE.sentence("a text of at most 100 characters: all of them are read");
        DUE.run("type " + " ".repeat(95) + "l1:2;", "count 18 = 100", "load = 1", "loadAt 1 = 2", "count 18 = 0");
        DUE.run("type " + " ".repeat(96) + "l1:2", "count 18 = 100", "load = error 100", "count 18 = 100");
        DUE.run("type " + " ".repeat(99) + "x", "load = error 99");
        DUE.run("type " + " ".repeat(99) + "l", "load = error 100");
    }

    private static void clearTextTellsTheLength() {
        DUE.sentence("clearText: Makes the text empty. Returns the previous length of the text");
        DUE.run("clearText = 0", "appendCharacter 0 = 1", "clearText = 1", "clearText = 0",
            "type " + "l".repeat(99), "clearText = 99", "type " + "l".repeat(100), "clearText = 100",
            "count 18 = 0", "load = 0", "count 19 = 1");
        DUE.run("type l1:2;", "clearText = 5", "type c3:4;", "load = 1", "count 15 = 0", "errorAt 3 = 4");
    }

    private static void emptyText() {
        DUE.sentence("a sequence of items, perhaps empty");
        DUE.run("load = 0", "count 18 = 0", "count 19 = 1", "load = 0", "count 19 = 2");
        DUE.run("setLoad 5 6", "load = 0", "loadAt 5 = 6", "count 15 = 1");
    }

    private static void textOfSpaces() {
        DUE.sentence("a sequence of items, perhaps empty; spaces may stand everywhere");
        load(" ", "0");
        load(" ".repeat(100), "0");
        load("  x", "error 2");
    }

    private static void mostItems() {
        DUE.sentence("Returns the number of items");
        load("l1:2;", "1");
        load("l1:2;l1:2;", "2");
        load("l1:2;".repeat(19), "19");
        load("l1:2;".repeat(20), "20");
        load(TEN_LOADS + TEN_POINTS, "20");
        load("f1:2;".repeat(20), "20");
    }

    private static void itemKinds() {
        DUE.sentence("\"l\" (load) or \"c\" (comb) .. or \"f\"");
        load("l1:2;", "1");
        load("c1:2;", "1");
        load("f1:2;", "1");
        for (String sign : new String[] {"L", "C", "F", "k", "m", "b", "d", "e", "g", ";", ":", "-", "1", "0"}) {
            load(sign + "1:2;", "error 0");
            load("l1:2;" + sign + "1:2;", "error 5");
        }
        load("ll1:2;", "error 1");
    }

    private static void eachItemEndsWithASemicolon() {
        DUE.sentence("items, each of which ends with \";\"");
        load("l1:2", "error 4");
        load("l1:2;l1:2", "error 9");
        load("l1:2l1:2;", "error 4");
        load("l1:2:", "error 4");
        load("l1:2,", "error 4");
        load("l1;2;", "error 2");
        load("l1:2;;", "error 5");
        load(";", "error 0");
        load("l1:;", "error 3");
        load("l:2;", "error 1");
        load("l;", "error 1");
    }

    private static void numberOfOneToFiveDigits() {
        DUE.sentence("1 to 5 digits");
        load("l:1;", "error 1");
        load("l-:1;", "error 2");
        DUE.run("type l7:1;l12:2;l123:3;l1234:4;l12345:5;", "load = 5", "loadAt 7 = 1", "loadAt 12 = 2",
            "loadAt 123 = 3", "loadAt 1234 = 4", "loadAt 12345 = 5", "loadAt 12344 = 4");
        DUE.run("type c-7:-1;c-12:-2;c-123:-33;c-1234:4;c-12345:5;", "load = 5", "errorAt -7 = -1",
            "errorAt -12 = -2", "errorAt -123 = -33", "errorAt -1234 = 4", "errorAt -12345 = 5");
        load("l123456:1;", "error 6");
        load("l1:/;", "error 3");
        load("l1/:1;", "error 2");
        DUE.run("type l10:109;l98:76;l5:43;l2:0;", "load = 4", "loadAt 10 = 109", "loadAt 98 = 76", "loadAt 5 = 43",
            "loadAt 2 = 0");
    }

    private static void zeroAhead() {
        DUE.sentence("the first of several not 0; a number that has a 0 ahead: it is its first digit");
        load("l0:0;", "1");
        load("c0:0;", "1");
        load("f-1:0;", "1");
        load("l00:1;", "error 1");
        load("l01:1;", "error 1");
        load("l05:1;", "error 1");
        load("l-01:1;", "error 2");
        load("l- 00:1;", "error 3");
        load("l00000:1;", "error 1");
        load("l000000:1;", "error 1");
        load("l012345:1;", "error 1");
        load("l0123456:1;", "error 1");
        load("l1:00;", "error 3");
        load("l1:01;", "error 3");
        load("l1: 0200;", "error 4");
        load("c1:-09;", "error 4");
        load("c1:00;", "error 3");
        load("f1:02;", "error 3");
        load("f01:2;", "error 1");
        load("l10:100;", "1");
        load("l10000:1;", "1");
    }

    private static void sixthDigit() {
        DUE.sentence("otherwise a sixth digit is not allowed itself");
        load("l12345:1;", "1");
        load("l123456:1;", "error 6");
        load("l1234567:1;", "error 6");
        load("l-123456:1;", "error 7");
        load("l- 123456:1;", "error 8");
        load("l200000:1;", "error 6");
        load("l200009", "error 6");
        load("c-200000:1;", "error 7");
        load("c100000:1;", "error 6");
        load("f1:100000;", "error 8");
        load("f1:123456;", "error 8");
        load("f-20000:-199990;", "error 14");
        load("f123456:1;", "error 6");
    }

    private static void sixthDigitOfANumberOutOfRange() {
        DUE.sentence("a number (of at most five digits) that is out of its range: its first digit, whatever stands "
            + "behind it");
        load("l200010:1;", "error 1");
        load("l-200010:1;", "error 2");
        load("l999999:1;", "error 1");
        load("l1:100000;", "error 3");
        load("l1:999999;", "error 3");
        load("c1:100000;", "error 3");
        load("c1:-100000;", "error 4");
        load("f1:200010;", "error 3");
        load("f12345:123450;", "error 7");
        load("f12345:123460;", "error 12");
        load("f12344:123450;", "error 12");
        load("f1:-100000;", "error 4");
        load("l20001x", "error 1");
        load("l20001 5", "error 1");
        load("l20001;", "error 1");
        load("l1:201x", "error 3");
        load("l1:201 5;", "error 3");
        load("c1:100:", "error 3");
        load("f1:1l", "error 3");
        load("l01x", "error 1");
        load("l1:01-", "error 3");
    }

    private static void minusAtMostOnce() {
        DUE.sentence("A number is perhaps \"-\" and 1 to 5 digits");
        load("l--1:2;", "error 2");
        load("l- -1:2;", "error 3");
        load("c1:--2;", "error 4");
        load("c1:- -2;", "error 5");
        load("f1:--2;", "error 4");
        load("l1-:2;", "error 2");
        load("l1-2:2;", "error 2");
        load("c1:2-;", "error 4");
        load("l-:2;", "error 2");
        load("c1:-;", "error 4");
        load("l+1:2;", "error 1");
        load("c1:+2;", "error 3");
        load("l-1:2;", "1");
        load("c-1:-2;", "1");
        load("f-2:-1;", "1");
    }

    private static void minusNotForLoads() {
        DUE.sentence("perhaps \"-\" (not for loads)");
        load("l5:-1;", "error 3");
        load("l5:-0;", "error 3");
        load("l5: -1;", "error 4");
        load("l-5:-1;", "error 4");
        load("l5:-", "error 3");
        DUE.run("type l-5:1;", "load = 1", "loadAt -5 = 1", "loadAt -6 = 0");
    }

    private static void minusZero() {
        DUE.sentence("perhaps \"-\" and 1 to 5 digits: of one digit, it may be 0");
        DUE.run("type l-0:0;c-0:-0;f-1:-0;", "load = 3", "count 15 = 1", "errorAt 0 = 0", "flag 1 = 0",
            "setLoad 0 -1 = 0");
        load("f-0:1;", "1");
        load("f-0:0;", "error 4");
        load("f0:-0;", "error 4");
        load("f1:-0;", "error 4");
    }

    private static void placeRange() {
        DUE.sentence("a place, -20000 to 20000; a number that is out of its range: its first digit");
        for (String kind : new String[] {"l", "c"}) {
            load(kind + "20000:1;", "1");
            load(kind + "20001:1;", "error 1");
            load(kind + "19999:1;", "1");
            load(kind + "-20000:1;", "1");
            load(kind + "-20001:1;", "error 2");
            load(kind + "-19999:1;", "1");
            load(kind + "99999:1;", "error 1");
            load(kind + "-99999:1;", "error 2");
            load(kind + " - 20001:1;", "error 4");
        }
        DUE.run("type l20000:200;l-20000:3;", "load = 2", "loadAt 19999 = 3", "loadAt 20000 = 200",
            "loadAt -20000 = 3");
        DUE.run("type c20000:99;c-20000:-99;", "load = 2", "errorAt 20000 = 99", "errorAt -20000 = -99");
    }

    private static void loadRange() {
        DUE.sentence("a load is 0 to 200; a number that is out of its range: its first digit");
        DUE.run("type l1:0;", "load = 1", "count 15 = 1", "setLoad 1 5 = 0");
        DUE.run("type l1:1;", "load = 1", "loadAt 1 = 1");
        DUE.run("type l1:199;", "load = 1", "loadAt 1 = 199");
        DUE.run("type l1:200;", "load = 1", "loadAt 1 = 200");
        load("l1:201;", "error 3");
        load("l1:202;", "error 3");
        load("l1:2000;", "error 3");
        load("l1:99999;", "error 3");
        load("l1:  201  ;", "error 5");
    }

    private static void errorRange() {
        DUE.sentence("an error, -99 to 99; a number that is out of its range: its first digit");
        DUE.run("type c1:99;", "load = 1", "errorAt 1 = 99");
        DUE.run("type c1:98;", "load = 1", "errorAt 1 = 98");
        DUE.run("type c1:-99;", "load = 1", "errorAt 1 = -99");
        DUE.run("type c1:-98;", "load = 1", "errorAt 1 = -98");
        load("c1:100;", "error 3");
        load("c1:101;", "error 3");
        load("c1:-100;", "error 4");
        load("c1:-101;", "error 4");
        load("c1:99999;", "error 3");
    }

    private static void flagSecondPlaceIsGreater() {
        DUE.sentence("a second place of a flag that is not greater counts as out of its range");
        load("f5:6;", "1");
        load("f5:5;", "error 3");
        load("f5:4;", "error 3");
        load("f5:-6;", "error 4");
        load("f5:4", "error 3");
        load("f5:5x", "error 3");
        load("f5:5 5;", "error 3");
        load("f-5:-4;", "1");
        load("f-5:-5;", "error 5");
        load("f-5:-6;", "error 5");
        load("f-5:0;", "1");
        load("f19999:20000;", "1");
        load("f20000:20000;", "error 7");
        load("f20000:19999;", "error 7");
        load("f-20000:-20000;", "error 9");
        load("f-20000:-19999;", "1");
        load("f5:1;f6:7;", "error 3");
        load("f5:7;f6:6;", "error 8");
    }

    private static void flagPlaceRange() {
        DUE.sentence("-20000 <= f < g <= 20000; a number that is out of its range: its first digit");
        DUE.run("type f-20000:20000;", "load = 1", "flag 0 = -20000", "flag 1 = 20000");
        DUE.run("type f-19999:19999;", "load = 1", "flag 0 = -19999", "flag 1 = 19999");
        load("f-20001:0;", "error 2");
        load("f20001:0;", "error 1");
        load("f0:20001;", "error 3");
        load("f20000:20001;", "error 7");
        load("f-20000:-20001;", "error 9");
        load("f-20001:-20002;", "error 2");
    }

    private static void spacesEverywhere() {
        DUE.sentence("Spaces (code 32) may stand everywhere");
        String item = "l-7:20;";
        for (int i = 0; i <= item.length(); i++) {
            if (i != 5) {
                DUE.run("type " + item.substring(0, i) + " " + item.substring(i), "load = 1", "loadAt -7 = 20");
                DUE.run("type " + item.substring(0, i) + "   " + item.substring(i), "load = 1", "loadAt -7 = 20");
            }
        }
        DUE.run("type  l - 7 : 20 ; c - 3 : - 4 ; f - 9 : - 8 ; ", "load = 3", "loadAt -7 = 20", "errorAt -3 = -4",
            "flag 0 = -9", "flag 1 = -8");
    }

    private static void spacesNotWithinDigits() {
        DUE.sentence("Spaces may stand everywhere except within digits");
        load("l1 2:3;", "error 3");
        load("l1  2:3;", "error 4");
        load("l1:2 3;", "error 5");
        load("c-1 2:3;", "error 4");
        load("c1:-2 3;", "error 6");
        load("f1 2:3;", "error 3");
        load("f1:2 3;", "error 5");
        load("l0 0:1;", "error 3");
        load("l1:0 0;", "error 5");
    }

    private static void otherSignsAreNoSpaces() {
        DUE.sentence("Spaces (code 32): no other character counts as one");
        for (int code : new int[] {0, 9, 10, 13, 31, 33, 95, 160, 255}) {
            DUE.run("appendCharacter " + code, "load = error 0");
            DUE.run("type l", "appendCharacter " + code, "type 1:2;", "load = error 1");
            DUE.run("type l1", "appendCharacter " + code, "type :2;", "load = error 2");
            DUE.run("type l1:2;", "appendCharacter " + code, "load = error 5");
        }
        for (int code : new int[] {'0' - 1, '9' + 1, 128 + '1', 178, 185}) {
            DUE.run("type c1:", "appendCharacter " + code, "load = error 3");
            DUE.run("type c1:1", "appendCharacter " + code, "load = error 4");
        }
    }

    private static void beside() {
        DUE.sentence("An item sets what it tells beside what there is");
        DUE.run("setLoad 4 9", "setComb 7 70", "type l3:8;l5:7;c6:60;c8:80;", "load = 4", "count 15 = 3",
            "count 16 = 3", "loadAt 3 = 8", "loadAt 4 = 9", "loadAt 5 = 7", "errorAt 6 = 60", "errorAt 7 = 70",
            "errorAt 8 = 80");
        DUE.run("setFlag 1 2", "type l3:8;", "load = 1", "flag 0 = 1", "flag 1 = 2");
    }

    private static void inPlaceOf() {
        DUE.sentence("in place of one at the same place");
        DUE.run("setLoad 4 9", "setComb 7 70", "setFlag 1 2", "type l4:8;c7:60;f3:4;", "load = 3", "count 15 = 1",
            "count 16 = 1", "loadAt 4 = 8", "errorAt 7 = 60", "flag 0 = 3", "flag 1 = 4");
        DUE.run("type l4:8;l4:7;c7:1;c7:2;f3:4;f1:2;", "load = 6", "count 15 = 1", "count 16 = 1", "loadAt 4 = 7",
            "errorAt 7 = 2", "flag 0 = 1", "flag 1 = 2");
    }

    private static void outOfRangeIsItsFirstDigit() {
        DUE.sentence("for a number that is out of its range .. it is its first digit (not the \"-\" ahead)");
        load("l-20001:1;", "error 2");
        load("c1:-100;", "error 4");
        load("f1:-2;", "error 4");
        load("l1:1;l-20001:1;", "error 7");
        load("l  -  20001:1;", "error 6");
    }

    private static void eleventhLoad() {
        DUE.sentence("for an 11th load, it is the \"l\"");
        load(TEN_LOADS, "10");
        load(TEN_LOADS + "l10:1;", "error 50");
        load(TEN_LOADS + "  l10:1;", "error 52");
        load(TEN_LOADS + "l-1:1;", "error 50");
        load(TEN_LOADS + "c10:1;", "11");
        load(TEN_LOADS + "f1:2;", "11");
        load(TEN_LOADS + "c10:1;l10:1;", "error 56");
        DUE.run("setLoad 100 1", "type " + TEN_LOADS, "load = error 45", "count 15 = 1", "clearText = 50",
            "type " + TEN_LOADS.substring(5), "load = 9", "count 15 = 10");
        DUE.run("setLoad 100 1", "setLoad 101 1", "type " + TEN_LOADS, "load = error 40", "count 15 = 2");
    }

    private static void eleventhCombPoint() {
        DUE.sentence("for an 11th comb point, it is the \"c\"");
        load(TEN_POINTS, "10");
        load(TEN_POINTS + "c10:1;", "error 50");
        load(TEN_POINTS + "  c10:1;", "error 52");
        load(TEN_POINTS + "c-1:1;", "error 50");
        load(TEN_POINTS + "l10:1;", "11");
        load(TEN_POINTS + "l10:1;c10:1;", "error 56");
        DUE.run("setComb 100 1", "type " + TEN_POINTS, "load = error 45", "count 16 = 1", "clearText = 50",
            "type " + TEN_POINTS.substring(5), "load = 9", "count 16 = 10");
    }

    private static void eleventhOnlyIfNothingStandsWrong() {
        DUE.sentence("(if nothing stands wrong up to the \";\", this one included)");
        load(TEN_LOADS + "l10:1;x", "error 50");
        load(TEN_LOADS + "l10:1:", "error 55");
        load(TEN_LOADS + "l10:1x", "error 55");
        load(TEN_LOADS + "l10:1", "error 55");
        load(TEN_LOADS + "l10:1  ", "error 57");
        load(TEN_LOADS + "l10:201;", "error 54");
        load(TEN_LOADS + "l10;1;", "error 53");
        load(TEN_LOADS + "l20001:1;", "error 51");
        load(TEN_LOADS + "l", "error 51");
        load(TEN_POINTS + "c10:100;", "error 54");
        load(TEN_POINTS + "c10:1", "error 55");
        load(TEN_POINTS + "c10:1,", "error 55");
        load(TEN_POINTS + "c10:1;c", "error 50");
    }

    private static void eleventhPlaceThatIsThere() {
        DUE.sentence("in place of one at the same place: this is no 11th one");
        DUE.run("type " + TEN_LOADS + "l0:7;l9:8;l5:6;", "load = 13", "count 15 = 10", "loadAt 0 = 7", "loadAt 9 = 8",
            "loadAt 5 = 6");
        DUE.run("type " + TEN_POINTS + "c0:7;c9:8;c5:6;", "load = 13", "count 16 = 10", "errorAt 0 = 7",
            "errorAt 9 = 8", "errorAt 5 = 6");
        DUE.run("type " + TEN_LOADS, "load", "type l0:7;", "load = 1", "type l-1:7;", "load = error 0",
            "loadAt 0 = 7");
    }

    private static void textThatEnds() {
        DUE.sentence("If the text ends where something is missing, it is the length of the text");
        for (String item : new String[] {"l-12:5;", "c-1:-5;", "f - 12 : - 5 ;", "l 1 : 2 ;"}) {
            for (int length = 1; length < item.length(); length++) {
                load(item.substring(0, length), "error " + length);
                load(item.substring(0, length) + "  ", "error " + (length + 2));
                load("l1:2;" + item.substring(0, length), "error " + (length + 5));
            }
            load(item, "1");
        }
    }

    private static void textThatEndsBehindAWrongNumber() {
        DUE.sentence("a number that is out of its range or has a 0 ahead .. whatever stands behind it: the end, too");
        load("l20001", "error 1");
        load("l-20001", "error 2");
        load("l01", "error 1");
        load("l00", "error 1");
        load("l1:201", "error 3");
        load("l1:201  ", "error 3");
        load("l1:00", "error 3");
        load("c1:100", "error 3");
        load("f5:5", "error 3");
        load("f5:1", "error 3");
        load("l123456", "error 6");
        load("l20000", "error 6");
        load("l0", "error 2");
        load("l1:0", "error 4");
        load("l1:200", "error 6");
        load("f5:6", "error 4");
    }

    private static void firstErrorOnly() {
        DUE.sentence("the offset (from 0) of the first character that is not allowed where it stands");
        load("x", "error 0");
        load("xl20001:1;", "error 0");
        load("l1:201;l20001:1;x", "error 3");
        load("l1:2;x;l1:201;", "error 5");
        load("l1:2;l1:201;x", "error 8");
        load(" x", "error 1");
    }

    private static void errorChangesNothing() {
        DUE.sentence("-2000000 minus the error position if the text has an error (then nothing changes, and the text "
            + "is kept)");
        DUE.run("setLoad 1 9", "setComb 1 9", "setFlag 8 9", "type l1:5;l2:5;c1:5;c2:5;f1:5;x", "load = error 25",
            "count 18 = 26", "count 15 = 1", "count 16 = 1", "loadAt 1 = 9", "loadAt 2 = 9", "errorAt 1 = 9",
            "flag 0 = 8", "flag 1 = 9", "count 19 = 3", "load = error 25", "clearText = 26");
        DUE.run("type l1:5", "load = error 4", "appendCharacter 59 = 5", "load = 1", "loadAt 1 = 5");
        DUE.run("type " + "l1:2;".repeat(19) + "l1:2", "load = error 99", "appendCharacter 59 = 100", "load = 20");
        DUE.refused(new String[] {"setLoad 1 9", "keep 0", "type l1:5;l2:5;c1:5;f1:5;x"}, "load", "error 20");
        DUE.refused(new String[] {"type " + TEN_LOADS + "l10:1;"}, "load", "error 50");
    }

    private static void textBecomesEmpty() {
        DUE.sentence("Reads the text. The text becomes empty.");
        DUE.run("type l1:5;", "load = 1", "count 18 = 0", "clearText = 0", "load = 0", "appendCharacter 99 = 1");
        DUE.run("type " + "l1:2;".repeat(20), "load = 20", "count 18 = 0", "appendCharacter 32 = 1");
    }

    private static void loadSavesAState() {
        DUE.sentence("Every successful call of .. load() .. saves the state that preceded it");
        DUE.run("load = 0", "count 19 = 1", "type l1:5;l2:6;", "load = 2", "count 19 = 2", "undo = 1", "count 15 = 0",
            "count 18 = 0", "undo = 0", "undo = STATE");
        DUE.run("type x", "load = error 0", "count 19 = 0", "undo = STATE");
    }
}
