/** The boundary cases of promises 21 and 22, hush and shelf; for each a test of its own. */
public final class PlansEdgeTest {
    private static final int NONE = Shelf.NONE, BAD = Shelf.BAD;
    private static final int TURNED = Shelf.TURNED, SHUT = Shelf.SHUT;
    private static final int OPENS = Shelf.OPENS;
    private static final int QUIETEST = 0, LOUD = 1;
    private static final int[] EITHER = {0, 1};
    private static final String NINE_AT_ONCE = "l19;l19;l19;l19;l19;l19;l19;l19;l19";

    private static final Check CHECK = new Check();

    private PlansEdgeTest() { }

    public static void main(String[] args) {
        hushOutside();
        hushNothing();
        hushAllNine();
        hushFirstAndLastStep();
        hushBehindTheStep();
        hushLeastOfLikeOnes();
        hushFewestAheadOfLeast();
        hushWithLids();
        hushChangesNothing();

        shelfOutside();
        shelfOfMoreThanThereAre();
        shelfOfOne();
        shelfOfSix();
        shelfLeastOfLikeOnes();
        shelfLastOfAllRows();
        shelfStep19();
        shelfOthersByNumbers();
        shelfUnderLids();
        shelfChangesNothing();
        CHECK.end();
    }

    private static Shelf shelf(String about, String text) {
        return new Shelf(CHECK, about, text);
    }

    private static void dueHush(Shelf x, int step, int many, int bits) {
        x.due(many, "hush", step, 0);
        x.due(bits, "hush", step, 1);
    }

    private static void hushOutside() {
        shelf("21 nine boxes", NINE_AT_ONCE).refusedOutside(BAD, "hush", Shelf.to(0, 59), EITHER);
        shelf("21 no boxes", "").refusedOutside(BAD, "hush", Shelf.to(0, 59), EITHER);
    }

    private static void hushNothing() {
        dueHush(shelf("21 no boxes", ""), 0, 0, 0);
        dueHush(shelf("21 no boxes", ""), 59, 0, 0);
        dueHush(shelf("21 by a FAULT none", "l19;"), 59, 0, 0);
        dueHush(shelf("21 none is up", "x11;t19"), 59, 0, 0);
    }

    /** NONE would need one that is up under a LID, so that even nine are told. */
    private static void hushAllNine() {
        dueHush(shelf("21 all nine", NINE_AT_ONCE), 0, 9, 511);
        dueHush(shelf("21 all nine", NINE_AT_ONCE), 59, 9, 511);
    }

    private static void hushFirstAndLastStep() {
        Shelf x = shelf("21 STEPS 0 and 59", "l19;l29;t19").then("tell", 59, 2, TURNED);
        dueHush(x, 0, 1, 1);
        dueHush(x, 1, 2, 3);
        dueHush(x, 58, 2, 3);
        dueHush(x, 59, 3, 7);
    }

    private static void hushBehindTheStep() {
        Shelf x = shelf("21 shut in the told STEP", "l11").then("tell", 9, 0, SHUT);
        dueHush(x, 8, 1, 1);
        dueHush(x, 9, 0, 0);
    }

    private static void hushLeastOfLikeOnes() {
        Shelf x = shelf("21 of like ones the least bits", "t11;e11;e11");
        x.then("tell", 0, 0, TURNED).then("tell", 1, 0, SHUT).then("tell", 2, 1, SHUT);
        // up behind STEP 2 is box 2 alone, by 1, which is by 0: each lid of the three would do
        x.due(4, "step", 2, OPENS);
        dueHush(x, 2, 1, 1);
        x.then("lids", 1);
        dueHush(x, 2, 0, 0);
    }

    private static void hushFewestAheadOfLeast() {
        Shelf x = shelf("21 one lid ahead of two with less bits", "e29;e29;t19");
        x.then("tell", 0, 2, TURNED).then("tell", 1, 2, SHUT);
        dueHush(x, 5, 1, 4);
    }

    private static void hushWithLids() {
        Shelf x = shelf("21 LIDS that are there", NINE_AT_ONCE).then("lids", 257);
        dueHush(x, 59, 7, 254);
        x.then("lids", 511);
        dueHush(x, 59, 0, 0);
        x.then("lids", 510);
        dueHush(x, 59, 1, 1);
        Shelf one = shelf("21 LIDS of numbers that there are not", "l19").then("lids", 510);
        dueHush(one, 59, 1, 1);
    }

    private static void hushChangesNothing() {
        Shelf x = shelf("21 hush puts no LIDS", NINE_AT_ONCE).then("lids", 1);
        dueHush(x, 59, 8, 510);
        x.due(1, "count", 4);
        x.due(510, "step", 0, OPENS);
    }

    // ---- 22

    private static void dueRow(Shelf x, int loud, int many, int... row) {
        x.due(many, "shelf", row.length, loud, NONE);
        for (int i = 0; i < row.length; i++) {
            x.due(row[i], "shelf", row.length, loud, i);
        }
    }

    private static void shelfOutside() {
        Shelf x = shelf("22 nine boxes", NINE_AT_ONCE);
        x.refusedOutside(BAD, "shelf", Shelf.to(1, 6), EITHER, Shelf.to(NONE, 0));
        for (int n = 1; n <= 6; n++) {
            x.due(9, "shelf", n, LOUD, NONE);
            x.due(n - 1, "shelf", n, LOUD, n - 1);
            x.refused(BAD, "shelf", n, LOUD, n);
            x.refused(BAD, "shelf", n, LOUD, -2);
        }
    }

    private static void shelfOfMoreThanThereAre() {
        shelf("22 no boxes", "").refused(BAD, "shelf", 1, QUIETEST, NONE);
        shelf("22 by a FAULT none", "l19;").refused(BAD, "shelf", 1, QUIETEST, NONE);
        for (int boxes = 1; boxes <= 5; boxes++) {
            Shelf x = shelf("22 of " + boxes, ("l19;".repeat(boxes) + "x").substring(0, 4 * boxes - 1));
            x.due(boxes, "shelf", boxes, QUIETEST, NONE);
            x.refused(BAD, "shelf", boxes + 1, QUIETEST, NONE);
            x.refused(BAD, "shelf", boxes + 1, LOUD, 0);
        }
    }

    private static void shelfOfOne() {
        Shelf x = shelf("22 one has one row", "l19");
        dueRow(x, QUIETEST, 1, 0);
        dueRow(x, LOUD, 1, 0);
    }

    private static void shelfOfSix() {
        Shelf x = shelf("22 six boxes", "t19;x11;x11;x11;x11;e19").then("tell", 0, 0, TURNED);
        dueRow(x, QUIETEST, 1, 0, 1, 2, 3, 4, 5);
        dueRow(x, LOUD, 2, 0, 5, 1, 2, 3, 4);
        Shelf nine = shelf("22 seven of nine", NINE_AT_ONCE);
        nine.due(9, "shelf", 6, LOUD, NONE);
        nine.refused(BAD, "shelf", 7, LOUD, NONE);
    }

    private static void shelfLeastOfLikeOnes() {
        Shelf x = shelf("22 all rows alike", "l19;l19;l19;l19;l19;l19");
        dueRow(x, QUIETEST, 6, 0, 1, 2, 3, 4, 5);
        dueRow(x, LOUD, 6, 0, 1, 2, 3, 4, 5);
        Shelf none = shelf("22 none OPENS", "x11;x11;x11");
        dueRow(none, QUIETEST, 0, 0, 1, 2);
        dueRow(none, LOUD, 0, 0, 1, 2);
    }

    /** Noise comes in place 6 so late that nobody passes it on: by how far off each listens there is but one row. */
    private static void shelfLastOfAllRows() {
        Shelf loud = shelf("22 the last row alone", "e19;e29;e39;e49;e59;e69;t19").then("tell", 18, 6, TURNED);
        dueRow(loud, LOUD, 7, 5, 4, 3, 2, 1, 0);
        Shelf quiet = shelf("22 the last row alone", "x19;e19;e29;e39;e49;e59;t19").then("tell", 18, 6, TURNED);
        dueRow(quiet, QUIETEST, 1, 5, 4, 3, 2, 1, 0);
    }

    private static void shelfStep19() {
        Shelf x = shelf("22 STEPS 0 to 19", "t19;x19;e19").then("tell", 18, 0, TURNED);
        dueRow(x, LOUD, 2, 0, 2, 1);
        x.then("back").then("tell", 19, 0, TURNED);
        dueRow(x, LOUD, 1, 0, 1, 2);
        x.then("back").then("tell", 20, 0, TURNED);
        dueRow(x, LOUD, 0, 0, 1, 2);
        x.then("back").then("tell", 0, 0, TURNED);
        dueRow(x, LOUD, 2, 0, 2, 1);
    }

    private static void shelfOthersByNumbers() {
        Shelf x = shelf("22 the others by numbers, behind them", "x11;t19;e19").then("tell", 0, 1, TURNED);
        x.then("swap", 2, 8);
        x.due(1, "count", 6);
        dueRow(x, LOUD, 2, 0, 1);
        dueRow(x, QUIETEST, 1, 1, 0);
        dueRow(x, LOUD, 2, 0);
    }

    private static void shelfUnderLids() {
        Shelf x = shelf("22 under LIDS", "t19;x19;e19").then("tell", 0, 0, TURNED).then("lids", 4);
        dueRow(x, LOUD, 1, 0, 1, 2);
        x.then("lids", 511);
        dueRow(x, LOUD, 0, 0, 1, 2);
    }

    private static void shelfChangesNothing() {
        Shelf x = shelf("22 THE ROW stays", "t19;x19;e19").then("tell", 0, 0, TURNED).then("swap", 0, 8);
        dueRow(x, LOUD, 2, 0, 2, 1);
        x.due(8, "place", 0);
        x.due(0, "place", 8);
        x.due(1, "count", 6);
    }
}
