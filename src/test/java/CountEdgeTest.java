import java.math.BigInteger;
import java.util.ArrayList;
import java.util.List;

/** The boundary cases of promises 36 and 37, count and digest; for each a test of its own. */
public final class CountEdgeTest {
    private static final int NONE = Shelf.NONE, BAD = Shelf.BAD, NULL = Shelf.NULL;
    private static final int TURNED = Shelf.TURNED, LOOKED = Shelf.LOOKED, SHUT = Shelf.SHUT;
    private static final int OPENS = Shelf.OPENS, UP = Shelf.UP;
    private static final String NINE = "l99;l88;e77;w66;t55;l44;e33;w22;t11";
    private static final String NINE_AT_ONCE = "l19;l19;l19;l19;l19;l19;l19;l19;l19";

    private static final Check CHECK = new Check();

    private CountEdgeTest() { }

    public static void main(String[] args) {
        countOutside();
        countNothing();
        countTheMost();
        countWithAFault();
        countOpeningsFirstAndLast();
        countTheMostOpenings();
        countEmptyOnes();
        countFindings();

        digestOfNothing();
        digestOfAFault();
        digestOfOneBox();
        digestOfTwoAndOfThree();
        digestOfNoLawLeft();
        digestByItsArguments();
        digestsThatWrap();
        digestChangesNothing();
        digestTakesNoFindings();
        CHECK.end();
    }

    private static Shelf shelf(String about, String text) {
        return new Shelf(CHECK, about, text);
    }

    // ---- 36

    private static void countOutside() {
        shelf("36 what is 0 to 8", "").refusedOutside(BAD, "count", Shelf.to(0, 8));
        shelf("36 what is 0 to 8", NINE).refusedOutside(BAD, "count", Shelf.to(0, 8));
        shelf("36 BAD leaves the FINDING", "").then("lose", 0).refusedOutside(BAD, "count", Shelf.to(0, 8));
    }

    private static void countNothing() {
        Shelf x = shelf("36 a new object", "");
        for (int what = 0; what <= 8; what++) {
            x.due(0, "count", what);
        }
    }

    private static void countTheMost() {
        Shelf x = shelf("36 the most of each", "x99;x99;x99;x99;x99;x99;x99;x99;x99");
        for (int k = 0; k < 24; k++) {
            x.then("tell", k, 0, TURNED);
        }
        for (int k = 0; k < 8; k++) {
            x.then("heard", k, 0);
        }
        x.then("lids", 511).then("sheet", 0, 0, -1);
        int[] most = {9, 35, 24, 8, 511, 81, 0, 9, 5};
        for (int what = 0; what <= 8; what++) {
            x.due(most[what], "count", what);
        }
    }

    private static void countWithAFault() {
        Shelf x = shelf("36 with a FAULT", "l19;x19;l1").then("tell", 0, 0, SHUT).then("heard", 0, 1).then("lids", 1);
        int[] want = {0, 10, 1, 1, 1, 0, 0, 0, 0};
        for (int what = 0; what <= 8; what++) {
            x.due(want[what], "count", what);
        }
    }

    private static void countOpeningsFirstAndLast() {
        Shelf x = shelf("36 STEPS 0 to 59", "t19").then("tell", 0, 0, TURNED);
        x.due(1, "count", 6);
        x.then("tell", 58, 0, SHUT).then("tell", 59, 0, TURNED);
        x.due(2, "count", 6);
        x.then("lids", 1);
        x.due(0, "count", 6);
    }

    private static void countTheMostOpenings() {
        Shelf x = shelf("36 nine open at once, three of them often", NINE_AT_ONCE);
        for (int k = 0; k < 24; k++) {
            x.then("tell", k / 3, k % 3, SHUT);
        }
        // shut in STEPS 0 to 7, three open nine times each
        x.due(33, "count", 6);
        x.due(81, "count", 5);
    }

    private static void countEmptyOnes() {
        shelf("36 none has LAW x", NINE_AT_ONCE).due(0, "count", 7);
        shelf("36 the first and the last", "x11;l19;x99").due(2, "count", 7);
        shelf("36 x alone", "x11").due(1, "count", 7);
    }

    private static void countFindings() {
        Shelf x = shelf("36 the latest FINDING", "").then("sheet", 1, 0, 1).then("sheet", 2, 1, 1);
        x.due(0, "count", 8);
        x.then("lose", 0);
        x.due(1, "count", 8);
        x.then("get", 1, 0, 1);
        x.due(2, "count", 8);
        x.then("get", 1, 1, 0);
        x.due(3, "count", 8);
        x.then("copy", 1, 0, 2, 0, 1);
        x.due(4, "count", 8);
        x.then("sheet", 1, 0, -1);
        x.due(5, "count", 8);
        x.then("lose", 0);
        x.due(1, "count", 8);
    }

    // ---- 37

    /** h is 17, then 31 h and each of these, by numbers without end and cut to a long alone at the end. */
    private static long fold(List<Long> all) {
        BigInteger h = BigInteger.valueOf(17);
        for (long one : all) {
            h = h.multiply(BigInteger.valueOf(31)).add(BigInteger.valueOf(one));
        }
        return h.longValue();
    }

    private static long fold(long... all) {
        List<Long> list = new ArrayList<>();
        for (long one : all) {
            list.add(one);
        }
        return fold(list);
    }

    private static void digestOfNothing() {
        shelf("37 no boxes", "").due(fold(
            0, 0, 0, 0, 0, 0, 0, 0, NONE, 0, 1, 2, 3, 4, 5, 6, 7, 8,
            0, 0, 0, 0, 0, 0, 0, 0, 0, 0, 0, NONE, NONE, BAD, 0, 0, BAD, BAD, BAD, BAD, 0, BAD, 0, 0), "digest");
    }

    private static void digestOfAFault() {
        shelf("37 with a FAULT", "l19;").due(fold(
            0, 4, 0, 0, 0, 0, 0, 0, 4, 0, 1, 2, 3, 4, 5, 6, 7, 8,
            0, 0, 0, 0, 0, 0, 0, 0, 0, 0, 0, NONE, NONE, BAD, 0, 0, BAD, BAD, BAD, BAD, 0, BAD, 0, 0), "digest");
    }

    /** One box is not together with itself, has nobody to tell, and is no row of three. */
    private static void digestOfOneBox() {
        shelf("37 one box", "x12").due(fold(
            1, 3, 0, 0, 0, 2, 0, 1, NONE, 0, 1, 2, 3, 4, 5, 6, 7, 8,
            4, 1, 2, NONE, 2, BAD, 1, 37, 1, 0, 1,
            0, 0, 0, 0, 0, 0, 0, 0, 0, 0, 0, NONE, NONE, BAD, 0, 0, BAD, BAD, BAD, BAD, 1, 0, 0, 0), "digest");
    }

    private static void digestOfTwoAndOfThree() {
        shelf("37 two boxes, news", "x12;x13").due(fold(
            2, 7, 0, 0, 0, 5, 0, 2, NONE, 0, 1, 2, 3, 4, 5, 6, 7, 8,
            4, 1, 2, NONE, 2, BAD, 1, 37, 1, 0, 1,
            4, 1, 3, NONE, 3, 0, 2, 37, 1, 0, 1,
            0, 0, 0, 0, 0, 0, 0, 0, 0, 0, 0, NONE, NONE, NONE, 0, 0, BAD, BAD, BAD, BAD, 3, 0, 0, 0), "digest");
        shelf("37 three boxes, a row of them", "x12;x13;x14").due(fold(
            3, 11, 0, 0, 0, 9, 0, 3, NONE, 0, 1, 2, 3, 4, 5, 6, 7, 8,
            4, 1, 2, NONE, 2, BAD, 1, 37, 1, 0, 1,
            4, 1, 3, NONE, 3, 0, 2, 37, 1, 0, 1,
            4, 1, 4, NONE, 4, 0, 4, 37, 1, 0, 1,
            0, 0, 0, 0, 0, 0, 0, 0, 0, 0, 0, NONE, NONE, NONE, 0, 0, 0, 0, 0, 0, 7, 0, 0, 0), "digest");
    }

    private static void digestOfNoLawLeft() {
        shelf("37 learn(it, 0) is NONE", "x12").then("heard", 0, 9).due(fold(
            1, 3, 0, 1, 0, 2, 0, 1, NONE, 0, 1, 2, 3, 4, 5, 6, 7, 8,
            4, 1, 2, NONE, 2, BAD, 1, 0, NONE, 0, 1,
            0, 0, 0, 0, 0, 0, 0, 0, 0, 0, 0, NONE, NONE, BAD, 0, 0, BAD, BAD, BAD, BAD, 0, 0, 0, 0), "digest");
    }

    private static void add(Shelf x, List<Long> all, String name, int... arguments) {
        all.add(x.ask(name, arguments));
    }

    private static void addBox(Shelf x, List<Long> all, int it) {
        for (int what = 0; what <= 2; what++) {
            add(x, all, "box", it, what);
        }
        add(x, all, "first", it);
        add(x, all, "spring", 9, it);
        add(x, all, "together", it, 0);
        add(x, all, "hears", it, 2);
        add(x, all, "learn", it, NONE);
        add(x, all, "learn", it, 0);
        add(x, all, "looks", 5, it, 4, 0);
        add(x, all, "looks", 5, it, 4, 1);
    }

    private static long foldOfCalls(Shelf x) {
        List<Long> all = new ArrayList<>();
        for (int what = 0; what <= 7; what++) {
            add(x, all, "count", what);
        }
        add(x, all, "fault");
        for (int place = 0; place <= 8; place++) {
            add(x, all, "place", place);
        }
        for (int it = 0; it < x.ask("count", 0); it++) {
            addBox(x, all, it);
        }
        for (int step : new int[] {0, 1, 2, 9, 59}) {
            add(x, all, "step", step, OPENS);
            add(x, all, "step", step, UP);
        }
        add(x, all, "quiet");
        add(x, all, "loudest", 0);
        add(x, all, "loudest", 1);
        add(x, all, "news", 0, 0, 1);
        add(x, all, "hush", 9, 0);
        add(x, all, "hush", 9, 1);
        for (int loud = 0; loud <= 1; loud++) {
            add(x, all, "shelf", 3, loud, NONE);
            add(x, all, "shelf", 3, loud, 0);
        }
        add(x, all, "empty");
        add(x, all, "turn", 0, 4);
        add(x, all, "night", 7, 20, 0);
        add(x, all, "night", 7, 20, 1);
        return fold(all);
    }

    private static void dueAsCalls(Shelf x) {
        x.due(foldOfCalls(x), "digest");
    }

    /** States in which the STEPS and SEEDS next to those that the document names would answer otherwise. */
    private static void digestByItsArguments() {
        dueAsCalls(shelf("37 STEP 0", "t19;x11;x11").then("tell", 0, 0, TURNED));
        dueAsCalls(shelf("37 STEP 1", "t19;x11;x11").then("tell", 1, 0, TURNED));
        dueAsCalls(shelf("37 STEP 2", "t19;x11;x11").then("tell", 2, 0, TURNED));
        dueAsCalls(shelf("37 STEP 9", "t19;x11;x11").then("tell", 9, 0, TURNED));
        dueAsCalls(shelf("37 STEP 9, shut", "l11;x11;x11").then("tell", 9, 0, SHUT));
        dueAsCalls(shelf("37 STEP 10", "t19;x11;x11").then("tell", 10, 0, TURNED));
        dueAsCalls(shelf("37 STEP 59", "t19;x11;x11").then("tell", 59, 0, TURNED));
        dueAsCalls(shelf("37 hears(it, 2)", "l11;l11").then("tell", 2, 0, SHUT));
        dueAsCalls(shelf("37 hears(it, 2), then not", "l11;l11").then("tell", 3, 0, SHUT));
        dueAsCalls(shelf("37 turn(0, 4)", "t12;x11")
            .then("tell", 0, 0, TURNED).then("tell", 3, 0, SHUT).then("heard", 0, 1));
        dueAsCalls(shelf("37 night(7, 20)", "t49;t49;t59;t39"));
        dueAsCalls(shelf("37 looks(5, it, 4)", "l19;l29;l59"));
        dueAsCalls(shelf("37 shelf(3)", "e19;t19;x11;e19").then("tell", 0, 1, TURNED));
    }

    /** Some forty numbers and more are far beyond a long, on both sides of 0. */
    private static void digestsThatWrap() {
        boolean below = false;
        boolean above = false;
        for (String text : new String[] {"", "l19", "t19;e19", NINE, NINE_AT_ONCE}) {
            Shelf x = shelf("37 longs that wrap, of \"" + text + "\"", text);
            x.then("tell", 0, 0, TURNED).then("tell", 1, 0, LOOKED).then("tell", 2, 0, SHUT).then("heard", 9, 1);
            dueAsCalls(x);
            x.then("swap", 0, 8).then("lids", 2);
            dueAsCalls(x);
            long digest = x.ask("digest");
            below |= digest < 0;
            above |= digest > 0;
        }
        CHECK.holds("37 digests below and above 0", below && above);
    }

    private static void digestChangesNothing() {
        Shelf x = shelf("37 digest twice", NINE).then("tell", 0, 8, TURNED).then("heard", 0, 1);
        long first = x.ask("digest");
        x.due(first, "digest");
        x.due(1, "count", 2);
        x.due(1, "count", 3);
        x.due(0, "count", 4);
    }

    /** The digest leaves out count() 8 and the SHEETS, and what it asks is no FINDING. */
    private static void digestTakesNoFindings() {
        Shelf x = shelf("37 count() 8 is not in it", "l19");
        long before = x.ask("digest");
        x.due(0, "count", 8);
        x.refused(NULL, "lose", 0);
        x.due(before, "digest");
        x.due(1, "count", 8);
        x.lay(0, 2, 1, 2, 3);
        x.due(before, "digest");
    }
}
