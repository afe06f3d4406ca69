/** The boundary cases of promises 1 to 12: the text, the row, lids, told steps; for each a test of its own. */
public final class BoxesEdgeTest {
    private static final int NONE = Shelf.NONE, BAD = Shelf.BAD, NOT = Shelf.NOT, FULL = Shelf.FULL, NULL = Shelf.NULL;
    private static final int TURNED = Shelf.TURNED, LOOKED = Shelf.LOOKED, SHUT = Shelf.SHUT;
    private static final int OPENS = Shelf.OPENS, UP = Shelf.UP;
    private static final String NINE = "t11;e12;l13;w14;x15;t26;e37;l48;w99";

    private static final Check CHECK = new Check();

    private BoxesEdgeTest() { }

    public static void main(String[] args) {
        nothingInANewObject();
        sheetsOfANewObjectAreLost();
        theLastCall();

        bytesOutside();
        bytesInside();
        theThirtySixthByte();
        roomBehindUndoAndWipe();
        wipeNothing();
        wipeAll();
        wipeLeavesTheRest();
        undoNothing();
        undoToNothing();

        everyByteInEachPlace();
        textsNotEnded();
        theFirstOfSeveralFaults();
        noTenth();
        withAFaultThereAreNone();
        boxesOutside();
        figuresOneAndNine();

        placesOutside();
        eachInItsOwnPlace();
        swapOutside();
        swapAtTheEnds();
        swapWithAPlaceWithoutAJack();
        lidsOutside();
        lidsAtTheEnds();
        lidsOfNumbersThatThereAreNot();

        tellOutside();
        tellInside();
        theTwentyFifthStep();
        toldTwice();
        backWithoutAny();
        backFromTwentyFour();

        readNoSuchSheet();
        readALostSheet();
        readFewItems();
        readSixtyItems();
        readUpToTwentyFour();
        readWhatMayNotBe();
        readWhatMayJustBe();
        readInEachForm();
        CHECK.end();
    }

    private static Shelf shelf(String about, String text) {
        return new Shelf(CHECK, about, text);
    }

    // ---- 1 a new object

    private static void nothingInANewObject() {
        Shelf x = shelf("1 a new object", "");
        for (int what = 0; what <= 8; what++) {
            x.due(0, "count", what);
        }
        x.due(NONE, "fault");
        x.due(BAD, "box", 0, 0);
        x.due(0, "step", 0, OPENS);
        x.due(0, "step", 59, UP);
        x.due(0, "quiet");
        x.due(0, "wipe");
        x.due(0, "forget");
        x.due(0, "lids", 0);
        x.refused(NOT, "undo");
        x.refused(NOT, "back");
    }

    private static void sheetsOfANewObjectAreLost() {
        for (int s = 0; s <= 3; s++) {
            Shelf x = shelf("1 sheets are lost", "");
            x.refused(NULL, "lose", s);
            x.refused(NULL, "read", s);
            x.refused(NULL, "write", 0, s);
            x.refused(NULL, "lay", s, 0, 0, 0);
            x.refused(NULL, "copy", s, 0, s, 0, 0);
            x.refusedWith(1, Shelf.LEAST_INT, "get", s, 0, 0);
        }
    }

    private static void theLastCall() {
        Shelf x = shelf("an object has 512 calls", "l1");
        for (int k = 0; k < 509; k++) {
            x.then(k % 2 == 0 ? "type" : "undo", k % 2 == 0 ? new int[] {'9'} : new int[0]);
        }
        x.due(0, "first", 0);
    }

    // ---- 2, 3, 4 bytes

    private static void bytesOutside() {
        shelf("2 a byte is 0 to 255", "").refusedOutside(BAD, "type", Shelf.to(0, 255));
        shelf("2 a byte is 0 to 255", "t1").refusedOutside(BAD, "type", Shelf.to(0, 255));
    }

    private static void bytesInside() {
        Shelf x = shelf("2 a byte is 0 to 255", "");
        x.due(1, "type", 0);
        x.due(2, "type", 255);
        x.due(2, "count", 1);
    }

    private static void theThirtySixthByte() {
        Shelf x = shelf("2 up to 35 bytes", NINE.substring(0, 34));
        x.due(35, "type", '9');
        x.refused(FULL, "type", ';');
        x.refused(FULL, "type", 0);
        x.refused(FULL, "type", 255);
        x.refused(BAD, "type", 256);
        x.refused(BAD, "type", -1);
        x.due(35, "count", 1);
        x.due(9, "count", 0);
    }

    private static void roomBehindUndoAndWipe() {
        Shelf x = shelf("2 room again", NINE);
        x.due(34, "undo");
        x.due(35, "type", '1');
        x.refused(FULL, "type", '1');
        x.due(1, "box", 8, 2);
        x.due(35, "wipe");
        x.due(1, "type", 't');
    }

    private static void wipeNothing() {
        Shelf x = shelf("3 no bytes", "");
        x.due(0, "wipe");
        x.due(0, "count", 1);
        x.due(NONE, "fault");
    }

    private static void wipeAll() {
        Shelf x = shelf("3 35 bytes", NINE);
        x.due(35, "wipe");
        x.due(0, "count", 1);
        x.due(0, "count", 0);
        x.due(NONE, "fault");
        x.due(0, "wipe");
        x.refused(NOT, "undo");
    }

    private static void wipeLeavesTheRest() {
        Shelf x = shelf("3 the text alone", "t19");
        x.then("tell", 0, 0, TURNED).then("lids", 256).then("swap", 0, 8).then("heard", 0, 1).then("sheet", 0, 0, 3);
        x.due(3, "wipe");
        x.due(1, "count", 2);
        x.due(1, "count", 3);
        x.due(256, "count", 4);
        x.due(8, "place", 0);
        x.due(3, "lose", 0);
    }

    private static void undoNothing() {
        shelf("4 there is none", "").refused(NOT, "undo");
        shelf("4 there is none, wiped", "t11").then("wipe").refused(NOT, "undo");
    }

    private static void undoToNothing() {
        Shelf x = shelf("4 one byte", "y");
        x.due(0, "fault");
        x.due(0, "undo");
        x.due(NONE, "fault");
        x.refused(NOT, "undo");
    }

    // ---- 5, 6 what the text says

    /** Which bytes go on behind a text; all others are the FAULT. */
    private static void goesOn(String text, String well) {
        Shelf x = null;
        for (int b = 0; b <= 255; b++) {
            if (b % 100 == 0) {
                x = shelf("5 behind \"" + text + "\"", text);
            }
            x.then("type", b);
            boolean isWell = well.indexOf((char) b) >= 0;
            int length = text.length() + 1;
            int end = length % 4 == 3 ? NONE : length;
            CHECK.due("5 fault of \"" + text + "\" and byte " + b, x.ask("fault"), isWell ? end : text.length());
            x.then("undo");
        }
    }

    private static void everyByteInEachPlace() {
        String laws = "telwx", figures = "123456789", between = ";";
        goesOn("", laws);
        goesOn("t", figures);
        goesOn("t1", figures);
        goesOn("t11", between);
        goesOn("t11;", laws);
        goesOn("t11;x", figures);
        goesOn("t11;x9", figures);
        goesOn("t11;x99", between);
        goesOn(NINE.substring(0, 31), between);
        goesOn(NINE.substring(0, 32), laws);
        goesOn(NINE.substring(0, 33), figures);
        goesOn(NINE.substring(0, 34), figures);
    }

    private static void textsNotEnded() {
        for (int length = 0; length <= 35; length++) {
            Shelf x = shelf("5 not ended, its end", NINE.substring(0, length));
            boolean ended = length == 0 || length % 4 == 3;
            x.due(ended ? NONE : length, "fault");
            x.due(ended ? (length + 1) / 4 : 0, "count", 0);
            x.due(length, "count", 1);
        }
    }

    private static void theFirstOfSeveralFaults() {
        shelf("5 the first byte that is wrong", "t11;y0").due(4, "fault");
        shelf("5 the first byte that is wrong", ";;;").due(0, "fault");
        Shelf x = shelf("5 it stays where it is", "t1");
        x.due(2, "fault");
        x.type("0");
        x.due(2, "fault");
        x.type(";t11");
        x.due(2, "fault");
        x.due(0, "count", 0);
    }

    /** With 35 bytes a tenth cannot even begin: the ninth ends at byte 34, a ; and a letter would be 35 and 36. */
    private static void noTenth() {
        Shelf x = shelf("5 the first byte of a tenth", NINE);
        x.due(NONE, "fault");
        x.due(9, "count", 0);
        x.refused(FULL, "type", ';');
        x.refused(FULL, "type", 't');
        x.due(NONE, "fault");
        x.due(9, "count", 0);
        x.due(3, "box", 8, 0);
        x.refused(BAD, "box", 9, 0);
    }

    private static void withAFaultThereAreNone() {
        Shelf x = shelf("5 with a FAULT there are none", "l19;l19;l19;");
        x.due(12, "fault");
        int[] counts = {0, 12, 0, 0, 0, 0, 0, 0, 0};
        for (int what = 0; what <= 8; what++) {
            x.due(counts[what], "count", what);
        }
        x.refused(BAD, "box", 0, 0);
        x.refused(BAD, "spring", 0, 0);
        x.refused(BAD, "first", 0);
        x.refused(BAD, "together", 0, 1);
        x.refused(BAD, "news", 0, 0, 1);
        x.refused(BAD, "hears", 0, 0);
        x.refused(BAD, "shelf", 1, 0, NONE);
        x.refused(BAD, "learn", 0, NONE);
        x.refused(BAD, "turn", 0, 0);
        x.refused(Shelf.LONG_BAD, "looks", 0, 0, 0, 0);
        x.due(0, "step", 59, UP);
        x.due(0, "quiet");
        x.due(NONE, "loudest", 0);
        x.due(0, "hush", 59, 0);
        x.due(0, "empty");
        x.due(0, "night", 1, 59, 0);
    }

    private static void boxesOutside() {
        int[] whats = Shelf.to(0, 2);
        shelf("6 of nine", NINE).refusedOutside(BAD, "box", Shelf.to(0, 8), whats);
        shelf("6 of one", "t11").refusedOutside(BAD, "box", Shelf.to(0, 0), whats);
        shelf("6 of none", "").refused(BAD, "box", 0, 0);
        shelf("6 of none, by a FAULT", "t11;t").refused(BAD, "box", 0, 0);
    }

    private static void figuresOneAndNine() {
        Shelf x = shelf("6 figures 1 to 9", "t19;e91;l11;w99;x19;t11;e11;l99;x91");
        int[] laws = {0, 1, 2, 3, 4, 0, 1, 2, 4};
        int[] numbers = {1, 9, 1, 9, 1, 1, 1, 9, 9};
        int[] springs = {9, 1, 1, 9, 9, 1, 1, 9, 1};
        for (int box = 0; box <= 8; box++) {
            x.due(laws[box], "box", box, 0);
            x.due(numbers[box], "box", box, 1);
            x.due(springs[box], "box", box, 2);
        }
    }

    // ---- 7, 8, 9 the row, lids

    private static void placesOutside() {
        shelf("7 places are 0 to 8", "").refusedOutside(BAD, "place", Shelf.to(0, 8));
        shelf("7 places are 0 to 8", NINE).refusedOutside(BAD, "place", Shelf.to(0, 8));
    }

    private static void eachInItsOwnPlace() {
        for (String text : new String[] {"", "t11", "t11;", NINE}) {
            Shelf x = shelf("7 each in its own, at first", text);
            for (int place = 0; place <= 8; place++) {
                x.due(place, "place", place);
            }
        }
    }

    private static void swapOutside() {
        Shelf x = shelf("8 places are 0 to 8", "");
        x.refusedOutside(BAD, "swap", Shelf.to(0, 8), Shelf.to(0, 8));
        x.refused(BAD, "swap", 9, 9);
        x.refused(BAD, "swap", -1, -1);
        x.refused(BAD, "swap", -1, 9);
    }

    private static void swapAtTheEnds() {
        Shelf x = shelf("8 the ends of the row", "");
        x.due(0, "swap", 0, 0);
        x.due(0, "swap", 8, 8);
        x.due(0, "place", 0);
        x.due(8, "place", 8);
        x.due(1, "swap", 0, 8);
        x.due(8, "place", 0);
        x.due(0, "place", 8);
        x.due(1, "swap", 8, 0);
        x.due(0, "place", 0);
        x.due(8, "place", 8);
    }

    private static void swapWithAPlaceWithoutAJack() {
        Shelf x = shelf("8 a number that there is not", "t19;e19").then("tell", 0, 0, TURNED);
        x.due(2, "step", 1, OPENS);
        x.due(1, "swap", 1, 2);
        x.due(2, "place", 1);
        x.due(0, "step", 1, OPENS);
        x.due(1, "swap", 2, 1);
        x.due(2, "step", 1, OPENS);
        x.due(0, "swap", 1, 1);
        x.due(2, "step", 1, OPENS);
    }

    private static void lidsOutside() {
        shelf("9 LIDS are 0 to 511", NINE).refusedOutside(BAD, "lids", Shelf.to(0, 511));
        shelf("9 LIDS are 0 to 511", NINE).then("lids", 5).refusedOutside(BAD, "lids", Shelf.to(0, 511));
    }

    private static void lidsAtTheEnds() {
        Shelf x = shelf("9 none and all", "l19;l19;l19;l19;l19;l19;l19;l19;l19");
        x.due(0, "lids", 0);
        x.due(511, "step", 0, UP);
        x.due(0, "lids", 511);
        x.due(0, "step", 59, UP);
        x.due(511, "lids", 256);
        x.due(255, "step", 0, UP);
        x.due(256, "lids", 1);
        x.due(510, "step", 0, UP);
        x.due(1, "lids", 0);
        x.due(511, "step", 0, UP);
    }

    private static void lidsOfNumbersThatThereAreNot() {
        Shelf x = shelf("9 a lid without a box", "l19");
        x.due(0, "lids", 510);
        x.due(1, "step", 0, UP);
        x.due(510, "count", 4);
        x.due(510, "lids", 1);
        x.due(0, "step", 59, UP);
    }

    // ---- 10, 11 told steps

    private static void tellOutside() {
        int[] steps = Shelf.to(0, 59), boxes = Shelf.to(0, 8), acts = Shelf.to(0, 2);
        shelf("10 none told", "t19").refusedOutside(BAD, "tell", steps, boxes, acts);
        shelf("10 one told", "t19").then("tell", 0, 0, SHUT).refusedOutside(BAD, "tell", steps, boxes, acts);
    }

    private static void tellInside() {
        Shelf x = shelf("10 the first and the last of each", "t19;t19;t19;t19;t19;t19;t19;t19;t19");
        x.due(1, "tell", 0, 0, TURNED);
        x.due(2, "tell", 59, 8, TURNED);
        x.due(3, "tell", 59, 0, SHUT);
        x.due(1, "step", 0, OPENS);
        x.due(256, "step", 59, OPENS);
        x.due(256, "step", 59, UP);
        Shelf none = shelf("10 a number that there is not", "");
        none.due(1, "tell", 0, 0, TURNED);
        none.due(2, "tell", 0, 8, TURNED);
        none.due(0, "step", 0, OPENS);
        none.type("t19");
        none.due(1, "step", 0, OPENS);
    }

    private static Shelf toldTimes(String about, int times) {
        Shelf x = shelf(about, "t19;l99");
        for (int k = 0; k < times; k++) {
            x.then("tell", k, 1, LOOKED);
        }
        return x;
    }

    private static void theTwentyFifthStep() {
        Shelf x = toldTimes("10 24 at most", 23);
        x.due(24, "tell", 59, 0, TURNED);
        x.refused(FULL, "tell", 0, 0, TURNED);
        x.refused(FULL, "tell", 59, 8, SHUT);
        x.refused(BAD, "tell", 60, 0, TURNED);
        x.refused(BAD, "tell", 0, 9, TURNED);
        x.refused(BAD, "tell", 0, 0, 3);
        x.due(24, "count", 2);
        x.due(59, "first", 0);
    }

    private static void toldTwice() {
        Shelf x = shelf("10 however often, it is so once", "t29");
        x.due(1, "tell", 4, 0, TURNED);
        x.due(2, "tell", 4, 0, TURNED);
        x.due(3, "tell", 4, 0, TURNED);
        x.due(NONE, "first", 0);
        x.due(4, "tell", 5, 0, TURNED);
        x.due(5, "first", 0);
        x.due(3, "back");
        x.due(2, "back");
        x.due(1, "back");
        x.due(2, "tell", 5, 0, TURNED);
        x.due(5, "first", 0);
    }

    private static void backWithoutAny() {
        shelf("11 there is none", "t19").refused(NOT, "back");
        Shelf x = shelf("11 there is none any more", "t19");
        x.then("tell", 0, 0, TURNED);
        x.due(0, "back");
        x.refused(NOT, "back");
        x.due(NONE, "first", 0);
    }

    private static void backFromTwentyFour() {
        Shelf x = toldTimes("11 24 at most", 24);
        for (int left = 23; left >= 0; left--) {
            x.due(left, "back");
            x.due(left + 8, "first", 1);
        }
        x.refused(NOT, "back");
        Shelf full = toldTimes("11 room again", 24);
        full.due(23, "back");
        full.due(24, "tell", 0, 0, TURNED);
        full.due(0, "first", 0);
        full.refused(FULL, "tell", 0, 0, TURNED);
    }

    // ---- 12 steps told by a sheet

    private static void readNoSuchSheet() {
        shelf("12 no such sheet", "t19").lay(0, 0, 0, 0, 0).refusedOutside(BAD, "read", Shelf.to(0, 3));
        toldTimes("12 no such sheet", 24).refusedOutside(BAD, "read", Shelf.to(0, 3));
    }

    private static void readALostSheet() {
        shelf("12 LOST at first", "t19").refused(NULL, "read", 0);
        shelf("12 LOST", "t19").lay(3, 0, 0, 0, 0).then("lose", 3).refused(NULL, "read", 3);
        toldTimes("12 LOST, with 24 told", 24).refused(NULL, "read", 3);
    }

    private static void readFewItems() {
        int[] many = {0, 0, 0, 1, 1, 1, 2};
        for (int items = 0; items < many.length; items++) {
            Shelf x = shelf("12 three for each, whole ones", "t19").then("tell", 7, 0, SHUT);
            x.then("sheet", 3, 2, items);
            x.due(many[items], "read", 3);
            x.due(many[items] + 1, "count", 2);
            x.due(many[items] == 0 ? NONE : 0, "first", 0);
        }
    }

    private static void readSixtyItems() {
        Shelf x = shelf("12 sixty items", "t19").then("sheet", 0, 0, 60);
        x.then("lay", 0, 0, 57, 59).then("lay", 0, 0, 58, 0).then("lay", 0, 0, 59, SHUT);
        x.due(20, "read", 0);
        x.due(20, "count", 2);
        x.due(1, "step", 58, UP);
        x.due(0, "step", 59, UP);
    }

    private static void readUpToTwentyFour() {
        int[] told = {3, 4, 5, 23, 24};
        int[] many = {20, 20, 19, 1, 0};
        for (int k = 0; k < told.length; k++) {
            Shelf x = toldTimes("12 24 at most, " + told[k] + " before", told[k]).then("sheet", 1, 1, 60);
            x.due(many[k], "read", 1);
            x.due(told[k] + many[k], "count", 2);
            x.due(told[k] + many[k] - 1, "back");
        }
    }

    private static void readWhatMayNotBe() {
        int[][] wrong = {{-1, 0, 0}, {60, 0, 0}, {0, -1, 0}, {0, 9, 0}, {0, 0, -1}, {0, 0, 3},
            {Integer.MAX_VALUE, 0, 0}, {0, Integer.MIN_VALUE, 0}};
        for (int[] one : wrong) {
            Shelf first = shelf("12 the first may not be", "t19").lay(0, 2, one[0], one[1], one[2], 4, 0, 0);
            first.due(0, "read", 0);
            first.due(0, "count", 2);
            first.due(NONE, "first", 0);
            Shelf next = shelf("12 the next may not be", "t19").lay(0, 2, 5, 0, 0, one[0], one[1], one[2], 4, 0, 0);
            next.due(1, "read", 0);
            next.due(1, "count", 2);
            next.due(5, "first", 0);
            next.dueItems(0, 2, 5, 0, 0, one[0], one[1], one[2], 4, 0, 0);
        }
    }

    private static void readWhatMayJustBe() {
        Shelf x = shelf("12 the last of each", "t19").lay(0, 2, 0, 0, 0, 59, 8, 2, 59, 0, 2, 1, 0, 1);
        x.due(4, "read", 0);
        x.due(4, "count", 2);
        x.due(1, "step", 58, UP);
        x.due(0, "step", 59, UP);
    }

    private static void readInEachForm() {
        for (int form = 0; form <= 2; form++) {
            Shelf x = shelf("12 by FORM " + form, "t19").lay(2, form, 59, 0, 0, 59, 0, 2);
            x.due(2, "read", 2);
            x.due(1, "step", 59, OPENS);
            x.due(0, "step", 59, UP);
            x.due(6, "lose", 2);
        }
    }
}
