/** The boundary cases of promises 30 to 35, the sheets; for each a test of its own. */
public final class SheetsEdgeTest {
    private static final int BAD = Shelf.BAD, LEAST_INT = Shelf.LEAST_INT;
    private static final int NULL = Shelf.NULL, INDEX = Shelf.INDEX, CAST = Shelf.CAST, STORE = Shelf.STORE;
    private static final int SIZE = Shelf.SIZE;
    private static final int SHUT = Shelf.SHUT;
    private static final int OPENS = Shelf.OPENS, UP = Shelf.UP;
    private static final int LEAST = Integer.MIN_VALUE, GREATEST = Integer.MAX_VALUE;
    private static final int[] SHEETS = {0, 3};

    private static final Check CHECK = new Check();

    private SheetsEdgeTest() { }

    public static void main(String[] args) {
        sheetOutside();
        sheetBelowZero();
        sheetOfNoneAndOfSixty();
        sheetBadAheadOfSize();
        sheetIsNew();
        loseOutside();
        loseALostOne();
        loseNoneAndSixty();

        layOutside();
        layInEachForm();
        layFirstAndLastItem();
        layInNoItems();
        layOrderOfRefusals();
        getOutside();
        getTellsByCount8();
        getFirstAndLastItem();
        getTheLeastInt();

        copyOutside();
        copyLostOnes();
        copyUnlikeForms();
        copyBelowZero();
        copyNotSoMany();
        copyUpToTheEnd();
        copyNone();
        copyNumbersThatWrap();
        copySixty();
        copyInItself();
        copyOrderOfRefusals();

        writeOutside();
        writeToALostOne();
        writeNoneOneAndSixty();
        writeInEachForm();
        findingsStay();
        CHECK.end();
    }

    private static Shelf shelf(String about) {
        return new Shelf(CHECK, about, "");
    }

    // ---- 30, 31

    private static void sheetOutside() {
        Shelf x = shelf("30 no such SHEET, FORM, above 60").lay(0, 0, 7, 8);
        for (int wrong : new int[] {-1, 4, LEAST, GREATEST}) {
            x.refused(BAD, "sheet", wrong, 0, 0);
        }
        for (int wrong : new int[] {-1, 3, LEAST, GREATEST}) {
            x.refused(BAD, "sheet", 0, wrong, 0);
        }
        x.refused(BAD, "sheet", 0, 0, 61);
        x.refused(BAD, "sheet", 0, 0, GREATEST);
    }

    private static void sheetBelowZero() {
        for (int n : new int[] {-1, -60, LEAST}) {
            shelf("30 below 0, LOST").refused(SIZE, "sheet", 0, 0, n);
            shelf("30 below 0").lay(3, 2, 7, 8).refused(SIZE, "sheet", 3, 1, n);
        }
    }

    private static void sheetOfNoneAndOfSixty() {
        for (int s = 0; s <= 3; s++) {
            for (int form = 0; form <= 2; form++) {
                Shelf x = shelf("30 0 to 60 items");
                x.due(0, "sheet", s, form, 0);
                x.refusedWith(2, LEAST_INT, "get", s, form, 0);
                x.due(60, "sheet", s, form, 60);
                x.due(0, "get", s, form, 0);
                x.due(0, "get", s, form, 59);
                x.refusedWith(2, LEAST_INT, "get", s, form, 60);
                x.refused(BAD, "sheet", s, form, 61);
                x.due(60, "lose", s);
            }
        }
    }

    private static void sheetBadAheadOfSize() {
        Shelf x = shelf("30 BAD ahead of SIZE");
        x.refused(BAD, "sheet", -1, 0, -1);
        x.refused(BAD, "sheet", 4, 0, -1);
        x.refused(BAD, "sheet", 0, -1, -1);
        x.refused(BAD, "sheet", 0, 3, -1);
    }

    private static void sheetIsNew() {
        Shelf x = shelf("30 items are 0 at first").lay(1, 2, 7, 8, 9);
        x.due(2, "sheet", 1, 2, 2);
        x.dueItems(1, 2, 0, 0);
        x.due(4, "sheet", 1, 2, 4);
        x.dueItems(1, 2, 0, 0, 0, 0);
        x.then("lay", 1, 2, 3, 5);
        x.due(4, "sheet", 1, 0, 4);
        x.dueItems(1, 0, 0, 0, 0, 0);
        x.then("lay", 1, 0, 3, 5).then("lose", 1);
        x.due(4, "sheet", 1, 0, 4);
        x.dueItems(1, 0, 0, 0, 0, 0);
    }

    private static void loseOutside() {
        shelf("31 no such SHEET").lay(0, 0, 7).refusedOutside(BAD, "lose", SHEETS);
    }

    private static void loseALostOne() {
        for (int s = 0; s <= 3; s++) {
            Shelf x = shelf("31 LOST");
            x.refused(NULL, "lose", s);
            x.then("sheet", s, 0, 3);
            x.due(3, "lose", s);
            x.refused(NULL, "lose", s);
        }
    }

    private static void loseNoneAndSixty() {
        Shelf x = shelf("31 how many items it had").then("sheet", 0, 0, 0).then("sheet", 3, 2, 60);
        x.due(0, "lose", 0);
        x.due(60, "lose", 3);
        x.refused(NULL, "lose", 0);
    }

    // ---- 32, 33

    private static void layOutside() {
        Shelf x = shelf("32 no such SHEET, FORM").lay(0, 0, 7);
        for (int wrong : new int[] {-1, 4, LEAST, GREATEST}) {
            x.refused(BAD, "lay", wrong, 0, 0, 1);
        }
        for (int wrong : new int[] {-1, 3, LEAST, GREATEST}) {
            x.refused(BAD, "lay", 0, wrong, 0, 1);
        }
    }

    private static void dueLaid(int form, int v, int want) {
        Shelf x = shelf("32 FORM " + form + ", " + v).then("sheet", 0, form, 1);
        x.due(1, "lay", 0, form, 0, v);
        x.due(want, "get", 0, form, 0);
    }

    private static void layInEachForm() {
        int[] bytes = {0, 1, -1, 127, 128, 255, 256, 257, -128, -129, -256, 0x1234, LEAST, GREATEST};
        int[] asBytes = {0, 1, -1, 127, -128, -1, 0, 1, -128, 127, 0, 0x34, 0, -1};
        for (int k = 0; k < bytes.length; k++) {
            dueLaid(0, bytes[k], asBytes[k]);
        }
        int[] shorts = {128, -129, 32767, 32768, 65535, 65536, 65537, -32768, -32769, -65536, 0x12345, LEAST, GREATEST};
        int[] asShorts = {128, -129, 32767, -32768, -1, 0, 1, -32768, 32767, 0, 0x2345, 0, -1};
        for (int k = 0; k < shorts.length; k++) {
            dueLaid(1, shorts[k], asShorts[k]);
        }
        for (int v : new int[] {32768, -32769, LEAST + 1, GREATEST}) {
            dueLaid(2, v, v);
        }
    }

    private static void layFirstAndLastItem() {
        for (int n : new int[] {1, 3, 60}) {
            Shelf x = shelf("32 item 0 to " + (n - 1)).then("sheet", 2, 1, n);
            x.due(1, "lay", 2, 1, 0, 5);
            x.due(1, "lay", 2, 1, n - 1, 6);
            x.due(6, "get", 2, 1, n - 1);
            x.due(n == 1 ? 6 : 5, "get", 2, 1, 0);
            for (int wrong : new int[] {-1, n, LEAST, GREATEST}) {
                x.refused(INDEX, "lay", 2, 1, wrong, 7);
            }
        }
    }

    private static void layInNoItems() {
        Shelf x = shelf("32 no items").then("sheet", 0, 0, 0);
        x.refused(INDEX, "lay", 0, 0, 0, 1);
        x.refused(INDEX, "lay", 0, 0, -1, 1);
    }

    private static void layOrderOfRefusals() {
        Shelf x = shelf("32 BAD, NULL, CAST, INDEX").lay(1, 1, 7);
        x.refused(BAD, "lay", 0, 3, -1, 0);
        x.refused(BAD, "lay", 4, 0, -1, 0);
        x.refused(NULL, "lay", 0, 0, -1, 0);
        x.refused(CAST, "lay", 1, 0, -1, 0);
        x.refused(CAST, "lay", 1, 2, 1, 0);
        x.refused(CAST, "lay", 1, 2, 0, 0);
        x.refused(INDEX, "lay", 1, 1, 1, 0);
        x.refused(BAD, "lay", 1, 3, 0, 0);
    }

    private static void getOutside() {
        Shelf x = shelf("33 no such SHEET, FORM").lay(0, 0, 7);
        for (int wrong : new int[] {-1, 4, LEAST, GREATEST}) {
            x.refusedWith(0, LEAST_INT, "get", wrong, 0, 0);
        }
        for (int wrong : new int[] {-1, 3, LEAST, GREATEST}) {
            x.refusedWith(0, LEAST_INT, "get", 0, wrong, 0);
        }
    }

    private static void getTellsByCount8() {
        Shelf x = shelf("33 BAD, NULL, CAST, INDEX").lay(1, 1, 7);
        x.refusedWith(0, LEAST_INT, "get", 0, 3, -1);
        x.refusedWith(1, LEAST_INT, "get", 0, 0, -1);
        x.refusedWith(3, LEAST_INT, "get", 1, 0, -1);
        x.refusedWith(3, LEAST_INT, "get", 1, 2, 0);
        x.refusedWith(2, LEAST_INT, "get", 1, 1, 1);
        x.refusedWith(0, LEAST_INT, "get", 4, 0, 0);
        x.due(2, "count", 8);
        x.due(7, "get", 1, 1, 0);
        x.due(2, "count", 8);
    }

    private static void getFirstAndLastItem() {
        for (int n : new int[] {0, 1, 3, 60}) {
            Shelf x = shelf("33 of " + n + " items").then("sheet", 3, 0, n);
            for (int wrong : new int[] {-1, n, LEAST, GREATEST}) {
                x.refusedWith(2, LEAST_INT, "get", 3, 0, wrong);
            }
            if (n > 0) {
                x.then("lay", 3, 0, n - 1, -128);
                x.due(-128, "get", 3, 0, n - 1);
            }
        }
    }

    /** The least int may lie there, too: that is no FINDING. */
    private static void getTheLeastInt() {
        Shelf x = shelf("33 the least int is laid").lay(0, 2, LEAST);
        x.due(LEAST, "get", 0, 2, 0);
        x.due(0, "count", 8);
    }

    // ---- 34

    private static Shelf five(String about) {
        return shelf(about).lay(0, 1, 1, 2, 3, 4, 5).lay(1, 1, 6, 7, 8).lay(2, 2, 9);
    }

    private static void copyOutside() {
        Shelf x = five("34 no such SHEETS");
        for (int wrong : new int[] {-1, 4, LEAST, GREATEST}) {
            x.refused(BAD, "copy", wrong, 0, 0, 0, 0);
            x.refused(BAD, "copy", 0, 0, wrong, 0, 0);
            x.refused(BAD, "copy", wrong, 0, wrong, 0, 0);
        }
    }

    private static void copyLostOnes() {
        Shelf x = five("34 s, t LOST");
        x.refused(NULL, "copy", 3, 0, 0, 0, 1);
        x.refused(NULL, "copy", 0, 0, 3, 0, 1);
        x.refused(NULL, "copy", 3, 0, 3, 0, 0);
    }

    private static void copyUnlikeForms() {
        for (int s = 0; s <= 2; s++) {
            for (int t = 0; t <= 2; t++) {
                Shelf x = shelf("34 FORMS " + s + ", " + t).lay(0, 0, 7).lay(1, 1, 8).lay(2, 2, 9);
                if (s == t) {
                    x.due(1, "copy", s, 0, t, 0, 1);
                } else {
                    x.refused(STORE, "copy", s, 0, t, 0, 1);
                    x.refused(STORE, "copy", s, 0, t, 0, 0);
                }
            }
        }
    }

    private static void copyBelowZero() {
        Shelf x = five("34 below 0");
        x.refused(INDEX, "copy", 0, -1, 1, 0, 1);
        x.refused(INDEX, "copy", 0, 0, 1, -1, 1);
        x.refused(INDEX, "copy", 0, 0, 1, 0, -1);
        x.refused(INDEX, "copy", 0, -1, 1, 0, 0);
        x.refused(INDEX, "copy", 0, 0, 1, -1, 0);
        x.refused(INDEX, "copy", 0, 1, 1, 1, -1);
        x.refused(INDEX, "copy", 0, 1, 0, 1, -1);
    }

    private static void copyNotSoMany() {
        Shelf x = five("34 not so many");
        x.refused(INDEX, "copy", 0, 3, 1, 0, 3);
        x.refused(INDEX, "copy", 0, 5, 1, 0, 1);
        x.refused(INDEX, "copy", 0, 6, 1, 0, 0);
        x.refused(INDEX, "copy", 0, 0, 1, 0, 4);
        x.refused(INDEX, "copy", 0, 0, 1, 1, 3);
        x.refused(INDEX, "copy", 0, 0, 1, 3, 1);
        x.refused(INDEX, "copy", 0, 0, 1, 4, 0);
        x.refused(INDEX, "copy", 0, 0, 0, 1, 5);
        x.refused(INDEX, "copy", 0, 0, 0, 0, 6);
    }

    private static void copyUpToTheEnd() {
        Shelf x = five("34 just so many");
        x.due(1, "copy", 0, 2, 1, 0, 3);
        x.dueItems(1, 1, 3, 4, 5);
        x.due(1, "copy", 0, 0, 1, 2, 1);
        x.dueItems(1, 1, 3, 4, 1);
        x.due(1, "copy", 1, 2, 0, 4, 1);
        x.dueItems(0, 1, 1, 2, 3, 4, 1);
    }

    private static void copyNone() {
        Shelf x = five("34 none").then("sheet", 3, 1, 0);
        x.due(1, "copy", 0, 0, 1, 0, 0);
        x.due(1, "copy", 0, 5, 1, 3, 0);
        x.due(1, "copy", 3, 0, 3, 0, 0);
        x.due(1, "copy", 3, 0, 1, 3, 0);
        x.refused(INDEX, "copy", 3, 0, 1, 0, 1);
        x.refused(INDEX, "copy", 1, 0, 3, 0, 1);
        x.dueItems(0, 1, 1, 2, 3, 4, 5);
        x.dueItems(1, 1, 6, 7, 8);
    }

    private static void copyNumbersThatWrap() {
        Shelf x = five("34 sums that would wrap");
        x.refused(INDEX, "copy", 0, GREATEST, 1, 0, GREATEST);
        x.refused(INDEX, "copy", 0, 1, 1, 0, GREATEST);
        x.refused(INDEX, "copy", 0, 0, 1, 1, GREATEST);
        x.refused(INDEX, "copy", 0, GREATEST, 1, 0, 1);
        x.refused(INDEX, "copy", 0, 0, 1, GREATEST, 1);
        x.refused(INDEX, "copy", 0, LEAST, 1, 0, 1);
        x.refused(INDEX, "copy", 0, 0, 1, LEAST, 1);
        x.refused(INDEX, "copy", 0, 0, 1, 0, LEAST);
        x.refused(INDEX, "copy", 0, LEAST, 1, LEAST, LEAST);
        x.refused(INDEX, "copy", 0, 5, 1, 3, LEAST);
    }

    private static void copySixty() {
        Shelf x = shelf("34 sixty").then("sheet", 0, 2, 60).then("sheet", 3, 2, 60);
        x.then("lay", 0, 2, 0, GREATEST).then("lay", 0, 2, 59, LEAST);
        x.due(1, "copy", 0, 0, 3, 0, 60);
        x.due(GREATEST, "get", 3, 2, 0);
        x.due(LEAST, "get", 3, 2, 59);
        x.refused(INDEX, "copy", 0, 0, 3, 0, 61);
        x.refused(INDEX, "copy", 0, 1, 3, 0, 60);
        x.due(1, "copy", 0, 59, 3, 0, 1);
        x.due(LEAST, "get", 3, 2, 0);
    }

    private static void copyInItself() {
        Shelf on = five("34 in itself, as they were");
        on.due(1, "copy", 0, 0, 0, 1, 4);
        on.dueItems(0, 1, 1, 1, 2, 3, 4);
        Shelf back = five("34 in itself, as they were");
        back.due(1, "copy", 0, 1, 0, 0, 4);
        back.dueItems(0, 1, 2, 3, 4, 5, 5);
        Shelf same = five("34 in itself, where they are");
        same.due(1, "copy", 0, 0, 0, 0, 5);
        same.dueItems(0, 1, 1, 2, 3, 4, 5);
    }

    private static void copyOrderOfRefusals() {
        Shelf x = five("34 BAD, NULL, STORE, INDEX");
        x.refused(BAD, "copy", 4, -1, 3, -1, -1);
        x.refused(BAD, "copy", 3, -1, 4, -1, -1);
        x.refused(NULL, "copy", 3, -1, 0, -1, -1);
        x.refused(NULL, "copy", 2, -1, 3, -1, -1);
        x.refused(STORE, "copy", 0, -1, 2, -1, -1);
        x.refused(STORE, "copy", 2, 9, 1, 9, 9);
        x.refused(INDEX, "copy", 0, -1, 1, -1, -1);
    }

    // ---- 35

    private static void writeOutside() {
        shelf("35 no such SHEET, what").lay(0, 0, 7).refusedOutside(BAD, "write", new int[] {0, 1}, SHEETS);
        shelf("35 BAD ahead of NULL").refused(BAD, "write", 2, 0);
        shelf("35 BAD ahead of NULL").refused(BAD, "write", -1, 3);
    }

    private static void writeToALostOne() {
        shelf("35 LOST at first").refused(NULL, "write", OPENS, 0);
        shelf("35 LOST").then("sheet", 3, 1, 2).then("lose", 3).refused(NULL, "write", UP, 3);
    }

    private static void writeNoneOneAndSixty() {
        Shelf x = new Shelf(CHECK, "35 as many as there are items", "l19").then("tell", 58, 0, SHUT);
        x.then("sheet", 0, 1, 0);
        x.due(0, "write", OPENS, 0);
        x.then("sheet", 1, 1, 1);
        x.due(1, "write", OPENS, 1);
        x.due(1, "get", 1, 1, 0);
        x.then("sheet", 2, 1, 60);
        x.due(60, "write", OPENS, 2);
        x.due(1, "get", 2, 1, 0);
        x.due(0, "get", 2, 1, 58);
        x.due(1, "get", 2, 1, 59);
        x.due(60, "write", UP, 2);
        x.due(1, "get", 2, 1, 57);
        x.due(0, "get", 2, 1, 58);
        x.due(1, "get", 2, 1, 59);
        x.then("wipe");
        x.due(60, "write", UP, 2);
        x.dueItems(2, 1, new int[60]);
    }

    private static void writeInEachForm() {
        String text = "x11;x11;x11;x11;x11;x11;x11;l19;l29";
        int[] last = {-128, 384, 384};
        int[] opens = {0, 256, 256};
        for (int form = 0; form <= 2; form++) {
            Shelf x = new Shelf(CHECK, "35 bits of nine in FORM " + form, text).then("sheet", 3, form, 3);
            x.due(3, "write", UP, 3);
            x.dueItems(3, form, form == 0 ? -128 : 128, last[form], last[form]);
            x.due(3, "write", OPENS, 3);
            x.dueItems(3, form, form == 0 ? -128 : 128, opens[form], 0);
        }
    }

    private static void findingsStay() {
        Shelf x = shelf("the latest FINDING stays until the next").then("sheet", 0, 0, 1);
        x.due(0, "count", 8);
        x.refused(NULL, "lose", 3);
        x.refused(BAD, "lose", 4);
        x.refused(Shelf.NOT, "back");
        x.due(1, "count", 8);
        x.refused(INDEX, "lay", 0, 0, 1, 0);
        x.due(2, "count", 8);
        x.refused(CAST, "lay", 0, 1, 0, 0);
        x.due(3, "count", 8);
        x.then("sheet", 1, 1, 1);
        x.refused(STORE, "copy", 0, 0, 1, 0, 1);
        x.due(4, "count", 8);
        x.refused(SIZE, "sheet", 0, 0, -1);
        x.due(5, "count", 8);
        x.due(1, "copy", 0, 0, 0, 0, 1);
        x.due(5, "count", 8);
    }
}
