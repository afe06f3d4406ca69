/** The boundary cases of the laws and of promises 13 to 20; for each a test of its own. */
public final class StepsEdgeTest {
    private static final int NONE = Shelf.NONE, BAD = Shelf.BAD;
    private static final int TURNED = Shelf.TURNED, LOOKED = Shelf.LOOKED, SHUT = Shelf.SHUT;
    private static final int OPENS = Shelf.OPENS, UP = Shelf.UP;
    private static final int[] STEPS = {0, 59};
    private static final int[] EITHER = {0, 1};
    private static final String NINE_AT_ONCE = "l19;l19;l19;l19;l19;l19;l19;l19;l19";

    private static final Check CHECK = new Check();

    private StepsEdgeTest() { }

    public static void main(String[] args) {
        turnsByNumber();
        turnsSinceItOpened();
        turnsWhileUp();
        turnsUnderALid();
        placesOffByNumber();
        anotherNotItself();
        theStepAheadAlone();
        noiseOfOneShutAtOnce();
        noJackNoNoise();
        noiseInTheLastStep();
        unseenByNumber();
        looksFirstAndLast();
        unseenBehindItsOpening();
        looksWhileUp();
        unseenInTheLastStep();
        upByNumber();
        upBehindTheStepAhead();
        neverByX();
        nothingAheadOfStep0();
        springsByFigure();
        shutAsTold();
        allAtOnce();

        stepOutside();
        stepFirstAndLast();
        springOutside();
        springFirstAndLast();
        quiet();
        loudestOutside();
        loudestNone();
        loudestFirstOfLikeOnes();
        loudestFirstAndLast();
        firstOutside();
        firstAndNone();
        togetherOutside();
        togetherFromNoneToAll();
        newsOutside();
        newsFirstAndLast();
        newsOnlyWhileUp();
        newsOfAllAtOnce();
        hearsOutside();
        hearsFromOneToAll();
        CHECK.end();
    }

    private static Shelf shelf(String about, String text) {
        return new Shelf(CHECK, about, text);
    }

    private static String repeat(String box, int times, String last) {
        return (box + ";").repeat(times) + last;
    }

    private static void turn(Shelf x, int from, int to) {
        for (int step = from; step <= to; step++) {
            x.then("tell", step, 0, TURNED);
        }
    }

    // ---- t

    private static void turnsByNumber() {
        for (int number = 1; number <= 9; number++) {
            Shelf x = shelf("t" + number, "t" + number + "9");
            turn(x, 0, number - 2);
            x.due(NONE, "first", 0);
            x.then("tell", 59, 0, TURNED);
            x.due(59, "first", 0);
            x.then("back").then("tell", number - 1, 0, TURNED);
            x.due(number - 1, "first", 0);
            x.then("tell", number, 0, TURNED);
            x.due(number - 1, "first", 0);
        }
    }

    private static void turnsSinceItOpened() {
        Shelf x = shelf("t2, since it OPENED last", "t29");
        turn(x, 0, 1);
        x.then("tell", 1, 0, SHUT).then("tell", 2, 0, TURNED);
        x.due(1, "count", 6);
        x.then("tell", 3, 0, TURNED);
        x.due(1, "step", 3, OPENS);
        x.due(2, "count", 6);
    }

    private static void turnsWhileUp() {
        Shelf x = shelf("t2, up at the beginning", "t29");
        turn(x, 0, 3);
        x.then("tell", 3, 0, SHUT).then("tell", 4, 0, TURNED);
        x.due(0, "step", 4, OPENS);
        x.then("tell", 5, 0, TURNED);
        x.due(1, "step", 5, OPENS);
    }

    private static void turnsUnderALid() {
        Shelf x = shelf("t1 under a LID", "t19").then("tell", 0, 0, TURNED).then("lids", 1);
        x.due(NONE, "first", 0);
        x.then("lids", 0);
        x.due(0, "first", 0);
    }

    // ---- e

    private static void bring(Shelf x, int box, int place) {
        int from = 0;
        while (x.ask("place", from) != box) {
            from++;
        }
        x.then("swap", from, place);
    }

    /** A box that is turned in STEP 0 is in a place, one that listens in another: who opens in STEP 1. */
    private static void listens(int number, int turned, int listening, boolean hears) {
        Shelf x = shelf("e" + number + " in place " + listening + ", noise in " + turned, "t19;e" + number + "9");
        x.then("tell", 0, 0, TURNED);
        bring(x, 0, turned);
        bring(x, 1, listening);
        x.due(0, "place", turned);
        x.due(1, "place", listening);
        x.due(hears ? 2 : 0, "step", 1, OPENS);
        x.due(hears ? 1 : NONE, "first", 1);
    }

    private static void placesOffByNumber() {
        for (int number = 1; number <= 9; number++) {
            for (int off = 1; off <= 8; off++) {
                listens(number, 0, off, off <= number);
                listens(number, 8, 8 - off, off <= number);
            }
        }
        listens(1, 4, 3, true);
        listens(1, 4, 5, true);
        listens(1, 4, 2, false);
        listens(1, 4, 6, false);
    }

    private static void anotherNotItself() {
        Shelf x = shelf("e9 alone", "t19;e99");
        x.then("tell", 0, 0, TURNED).then("tell", 1, 1, SHUT);
        x.due(2, "step", 1, OPENS);
        x.due(0, "step", 2, OPENS);
        x.due(2, "count", 6);
    }

    private static void theStepAheadAlone() {
        Shelf x = shelf("e1, the STEP ahead", "t19;e19");
        x.then("tell", 5, 0, TURNED);
        x.due(1, "step", 5, OPENS);
        x.due(2, "step", 6, OPENS);
        x.then("tell", 6, 1, SHUT);
        x.due(0, "step", 7, OPENS);
        // it is up as the noise comes; shut in that step it opens in the next, shut in the next it is too late
        Shelf late = shelf("e1, two STEPS behind", "t19;e19;t19");
        late.then("tell", 0, 0, TURNED).then("tell", 3, 2, TURNED).then("tell", 3, 1, SHUT);
        late.due(2, "step", 4, OPENS);
        late.then("back").then("tell", 4, 1, SHUT);
        late.due(0, "step", 4, OPENS);
        late.due(0, "step", 5, OPENS);
    }

    private static void noiseOfOneShutAtOnce() {
        Shelf x = shelf("e1, by one shut at once", "t19;e19");
        x.then("tell", 0, 0, SHUT).then("tell", 0, 0, TURNED);
        x.due(1, "step", 0, OPENS);
        x.due(0, "step", 0, UP);
        x.due(2, "step", 1, OPENS);
    }

    private static void noJackNoNoise() {
        Shelf x = shelf("numbers without a jack", "x19;e99;w19");
        x.then("tell", 0, 8, TURNED).then("tell", 0, 3, TURNED);
        x.due(0, "count", 6);
        x.due(0, "step", 59, UP);
    }

    private static void noiseInTheLastStep() {
        Shelf x = shelf("e1 in STEP 59", "t19;e19").then("tell", 58, 0, TURNED);
        x.due(59, "first", 1);
        x.then("back").then("tell", 59, 0, TURNED);
        x.due(NONE, "first", 1);
    }

    // ---- l

    private static void unseenByNumber() {
        for (int number = 1; number <= 9; number++) {
            Shelf x = shelf("l" + number, "l" + number + "9");
            x.due(number - 1, "first", 0);
            x.due(number > 1 ? 0 : 1, "step", 0, UP);
            x.due(1, "step", number - 1, OPENS);
        }
    }

    private static void looksFirstAndLast() {
        for (int number = 1; number <= 9; number++) {
            Shelf x = shelf("l" + number + ", looked at", "l" + number + "9");
            x.then("tell", number, 0, LOOKED);
            x.due(number - 1, "first", 0);
            x.then("back").then("tell", number - 1, 0, LOOKED);
            x.due(2 * number - 1, "first", 0);
            x.then("back").then("tell", 0, 0, LOOKED);
            x.due(number, "first", 0);
        }
    }

    private static void unseenBehindItsOpening() {
        Shelf x = shelf("l2, behind the one in which it OPENED last", "l29").then("tell", 1, 0, SHUT);
        x.due(1, "step", 1, OPENS);
        x.due(0, "step", 2, OPENS);
        x.due(1, "step", 3, OPENS);
        Shelf one = shelf("l1, behind the one in which it OPENED last", "l19").then("tell", 0, 0, SHUT);
        one.due(1, "step", 0, OPENS);
        one.due(1, "step", 1, OPENS);
        Shelf up = shelf("l2, shut at their beginning", "l29").then("tell", 4, 0, SHUT);
        up.due(0, "step", 5, OPENS);
        up.due(1, "step", 6, OPENS);
    }

    private static void looksWhileUp() {
        Shelf x = shelf("l2, looked at while up", "l29");
        x.then("tell", 1, 0, LOOKED).then("tell", 4, 0, LOOKED).then("tell", 5, 0, LOOKED).then("tell", 5, 0, SHUT);
        x.due(3, "first", 0);
        x.due(1, "step", 4, UP);
        x.due(0, "step", 6, OPENS);
        x.due(1, "step", 7, OPENS);
    }

    private static void unseenInTheLastStep() {
        Shelf x = shelf("l9, STEP 59", "l99");
        for (int step = 5; step <= 50; step += 9) {
            x.then("tell", step, 0, LOOKED);
        }
        x.due(59, "first", 0);
        x.then("tell", 51, 0, LOOKED);
        x.due(NONE, "first", 0);
        x.then("back").then("tell", 59, 0, LOOKED);
        x.due(NONE, "first", 0);
    }

    // ---- w, x

    private static void upByNumber() {
        for (int number = 1; number <= 8; number++) {
            Shelf x = shelf("w" + number, repeat("t19", 8, "w" + number + "9"));
            for (int box = 0; box < number - 1; box++) {
                x.then("tell", 0, box, TURNED);
            }
            x.due(NONE, "first", 8);
            x.then("tell", 0, 7, TURNED);
            x.due(1, "first", 8);
            x.then("back").then("tell", 9, 7, TURNED);
            x.due(10, "first", 8);
        }
        Shelf nine = shelf("w9, eight are up", repeat("l19", 8, "w99"));
        nine.due(255, "step", 59, UP);
        nine.due(NONE, "first", 8);
    }

    private static void upBehindTheStepAhead() {
        Shelf x = shelf("w1, up behind the STEP ahead", "t19;w19");
        x.then("tell", 0, 0, TURNED).then("tell", 0, 0, SHUT);
        x.due(NONE, "first", 1);
        x.then("back").then("tell", 1, 0, SHUT);
        x.due(1, "first", 1);
        x.then("back").then("tell", 1, 1, SHUT);
        x.due(2, "step", 2, OPENS);
    }

    private static void neverByX() {
        Shelf x = shelf("x never", "l19;x19;x91;x99");
        x.then("tell", 0, 1, TURNED).then("tell", 1, 2, TURNED).then("tell", 2, 3, TURNED);
        x.due(1, "step", 59, UP);
        x.due(1, "count", 6);
    }

    private static void nothingAheadOfStep0() {
        Shelf x = shelf("STEP 0", "t19;l19;l29;e99;w19;x11");
        x.due(2, "step", 0, OPENS);
        x.then("tell", 0, 0, TURNED);
        x.due(3, "step", 0, OPENS);
        x.due(3, "step", 0, UP);
        x.due(28, "step", 1, OPENS);
    }

    // ---- springs, what is told

    private static void springsByFigure() {
        for (int spring = 1; spring <= 9; spring++) {
            Shelf x = shelf("a SPRING of " + spring, "l1" + spring);
            for (int step = 0; step <= spring; step++) {
                x.then("tell", step, 0, SHUT);
            }
            x.due(1, "step", spring - 1, OPENS);
            x.due(0, "step", spring, OPENS);
            x.due(spring, "count", 6);
            for (int step = 0; step <= spring; step++) {
                x.due(Math.max(0, spring - step - 1), "spring", step, 0);
            }
        }
    }

    private static void shutAsTold() {
        Shelf x = shelf("SHUT, also such as just opened", "l11").then("tell", 0, 0, SHUT);
        x.due(1, "step", 0, OPENS);
        x.due(0, "step", 0, UP);
        Shelf shut = shelf("SHUT while it is shut", "l21").then("tell", 0, 0, SHUT);
        shut.due(1, "first", 0);
        shut.due(1, "step", 59, UP);
        Shelf last = shelf("SHUT in STEP 59", "l11").then("tell", 59, 0, SHUT);
        last.due(1, "step", 58, UP);
        last.due(0, "step", 59, UP);
    }

    private static void allAtOnce() {
        Shelf x = shelf("all at once by how it was", "e19;w19;l19;w19;e19");
        x.due(4, "step", 0, OPENS);
        x.due(10, "step", 1, OPENS);
        x.due(17, "step", 2, OPENS);
    }

    // ---- 13, 14

    private static void stepOutside() {
        shelf("13 no boxes", "").refusedOutside(BAD, "step", STEPS, EITHER);
        shelf("13 nine boxes", NINE_AT_ONCE).refusedOutside(BAD, "step", STEPS, EITHER);
    }

    private static void stepFirstAndLast() {
        Shelf x = shelf("13 STEPS 0 and 59", NINE_AT_ONCE);
        x.due(511, "step", 0, OPENS);
        x.due(511, "step", 0, UP);
        x.due(0, "step", 59, OPENS);
        x.due(511, "step", 59, UP);
        x.then("tell", 58, 8, SHUT);
        x.due(255, "step", 58, UP);
        x.due(256, "step", 59, OPENS);
        Shelf none = shelf("13 no boxes", "");
        none.due(0, "step", 0, OPENS);
        none.due(0, "step", 59, UP);
    }

    private static void springOutside() {
        shelf("14 nine boxes", NINE_AT_ONCE).refusedOutside(BAD, "spring", STEPS, Shelf.to(0, 8));
        shelf("14 one box", "x11").refusedOutside(BAD, "spring", STEPS, Shelf.to(0, 0));
        shelf("14 no boxes", "").refused(BAD, "spring", 0, 0);
    }

    private static void springFirstAndLast() {
        Shelf x = shelf("14 whole, and used up", "x19;t11;t19");
        x.then("tell", 0, 1, TURNED).then("tell", 59, 2, TURNED).then("tell", 58, 2, SHUT);
        x.due(9, "spring", 0, 0);
        x.due(9, "spring", 59, 0);
        x.due(0, "spring", 0, 1);
        x.due(0, "spring", 59, 1);
        x.due(9, "spring", 58, 2);
        x.due(8, "spring", 59, 2);
    }

    // ---- 15, 16, 17

    private static void quiet() {
        shelf("15 no boxes", "").due(0, "quiet");
        shelf("15 none OPENS", "x11;t11").due(0, "quiet");
        shelf("15 in STEP 0 alone", "l11").due(1, "quiet");
        Shelf x = shelf("15 the last STEPS", "l19;t19").then("tell", 57, 1, TURNED);
        x.due(58, "quiet");
        x.then("back").then("tell", 58, 1, TURNED);
        x.due(59, "quiet");
        x.then("back").then("tell", 59, 1, TURNED);
        x.due(NONE, "quiet");
        x.then("lids", 2);
        x.due(1, "quiet");
        x.then("lids", 3);
        x.due(0, "quiet");
    }

    private static void loudestOutside() {
        shelf("16 nine boxes", NINE_AT_ONCE).refusedOutside(BAD, "loudest", EITHER);
        shelf("16 BAD ahead of NONE", "").refusedOutside(BAD, "loudest", EITHER);
    }

    private static void loudestNone() {
        for (String text : new String[] {"", "x11", "l19;"}) {
            Shelf x = shelf("16 none does, of \"" + text + "\"", text);
            x.due(NONE, "loudest", 0);
            x.due(NONE, "loudest", 1);
        }
    }

    private static void loudestFirstOfLikeOnes() {
        Shelf x = shelf("16 of like ones the first", "t19;t19;t19");
        x.then("tell", 3, 2, TURNED).then("tell", 4, 1, TURNED);
        x.due(3, "loudest", 0);
        x.due(1, "loudest", 1);
        x.then("tell", 4, 0, TURNED);
        x.due(4, "loudest", 0);
        x.due(2, "loudest", 1);
    }

    private static void loudestFirstAndLast() {
        Shelf x = shelf("16 nine in STEP 0", NINE_AT_ONCE);
        x.due(0, "loudest", 0);
        x.due(9, "loudest", 1);
        Shelf last = shelf("16 one in STEP 59", "t19").then("tell", 59, 0, TURNED);
        last.due(59, "loudest", 0);
        last.due(1, "loudest", 1);
    }

    private static void firstOutside() {
        shelf("17 nine boxes", NINE_AT_ONCE).refusedOutside(BAD, "first", Shelf.to(0, 8));
        shelf("17 one box", "x11").refusedOutside(BAD, "first", Shelf.to(0, 0));
        shelf("17 no boxes", "").refused(BAD, "first", 0);
    }

    private static void firstAndNone() {
        Shelf x = shelf("17 STEP 0, STEP 59, NONE", "l19;t19;x11");
        x.then("tell", 59, 1, TURNED).then("tell", 30, 0, SHUT);
        x.due(0, "first", 0);
        x.due(59, "first", 1);
        x.due(NONE, "first", 2);
        x.then("lids", 1);
        x.due(NONE, "first", 0);
    }

    // ---- 18

    private static void togetherOutside() {
        Shelf x = shelf("18 two boxes", "l19;l19");
        x.refused(BAD, "together", 0, 0);
        x.refused(BAD, "together", 1, 1);
        for (int wrong : new int[] {-1, 2, Integer.MIN_VALUE, Integer.MAX_VALUE}) {
            x.refused(BAD, "together", 0, wrong);
            x.refused(BAD, "together", wrong, 0);
            x.refused(BAD, "together", wrong, wrong);
        }
        Shelf nine = shelf("18 nine boxes", NINE_AT_ONCE);
        nine.due(60, "together", 0, 8);
        nine.due(60, "together", 8, 0);
        nine.refused(BAD, "together", 0, 9);
        nine.refused(BAD, "together", 8, 8);
        shelf("18 one box", "l19").refused(BAD, "together", 0, 1);
        shelf("18 no boxes", "").refused(BAD, "together", 0, 1);
    }

    private static void togetherFromNoneToAll() {
        shelf("18 never", "l19;x11").due(0, "together", 0, 1);
        shelf("18 behind all STEPS", "l19;l19").due(60, "together", 0, 1);
        shelf("18 behind all but one", "l19;l29").due(59, "together", 1, 0);
        Shelf last = shelf("18 behind the last alone", "t19;l19").then("tell", 59, 0, TURNED);
        last.due(1, "together", 0, 1);
        last.then("tell", 59, 1, SHUT);
        last.due(0, "together", 0, 1);
        Shelf first = shelf("18 behind the first alone", "l11;l19").then("tell", 1, 0, SHUT);
        first.due(1, "together", 0, 1);
    }

    // ---- 19, 20

    private static void newsOutside() {
        Shelf x = shelf("19 two boxes", "l19;l19");
        x.refused(BAD, "news", 0, 0, 0);
        x.refused(BAD, "news", 1, 59, 1);
        for (int wrong : new int[] {-1, 2, Integer.MIN_VALUE, Integer.MAX_VALUE}) {
            x.refused(BAD, "news", wrong, 0, 1);
            x.refused(BAD, "news", 0, 0, wrong);
            x.refused(BAD, "news", wrong, 0, wrong);
        }
        for (int wrong : new int[] {-1, 60, Integer.MIN_VALUE, Integer.MAX_VALUE}) {
            x.refused(BAD, "news", 0, wrong, 1);
        }
        shelf("19 one box", "l19").refused(BAD, "news", 0, 0, 1);
        shelf("19 no boxes", "").refused(BAD, "news", 0, 0, 1);
    }

    private static void newsFirstAndLast() {
        Shelf x = shelf("19 from a STEP on", "l19;l19;t19");
        x.due(0, "news", 0, 0, 1);
        x.due(7, "news", 0, 7, 1);
        x.due(59, "news", 1, 59, 0);
        x.then("tell", 59, 0, SHUT);
        x.due(NONE, "news", 1, 59, 0);
        x.due(58, "news", 1, 58, 0);
        x.then("tell", 59, 2, TURNED);
        x.due(59, "news", 1, 0, 2);
        x.due(NONE, "news", 0, 59, 2);
        x.due(59, "news", 0, 58, 2);
    }

    private static void newsOnlyWhileUp() {
        Shelf x = shelf("19 who has it is not up", "x11;l19;l19");
        x.due(NONE, "news", 0, 0, 1);
        x.due(NONE, "news", 1, 0, 0);
        Shelf over = shelf("19 up together ahead of the STEP alone", "l11;l19").then("tell", 5, 0, SHUT);
        over.due(4, "news", 0, 4, 1);
        over.due(NONE, "news", 0, 5, 1);
    }

    private static void newsOfAllAtOnce() {
        Shelf nine = shelf("19 nine at once", NINE_AT_ONCE);
        for (int to = 1; to <= 8; to++) {
            nine.due(0, "news", 0, 0, to);
            nine.due(59, "news", to, 59, 0);
        }
    }

    private static void hearsOutside() {
        shelf("20 nine boxes", NINE_AT_ONCE).refusedOutside(BAD, "hears", Shelf.to(0, 8), STEPS);
        shelf("20 one box", "x11").refusedOutside(BAD, "hears", Shelf.to(0, 0), STEPS);
        shelf("20 no boxes", "").refused(BAD, "hears", 0, 0);
    }

    private static void hearsFromOneToAll() {
        Shelf nine = shelf("20 all nine", NINE_AT_ONCE);
        nine.due(511, "hears", 0, 0);
        nine.due(511, "hears", 8, 59);
        Shelf x = shelf("20 the one it is of, too", "x11;l19;t19");
        x.due(1, "hears", 0, 0);
        x.due(2, "hears", 1, 59);
        x.due(4, "hears", 2, 0);
        x.then("tell", 59, 2, TURNED);
        x.due(6, "hears", 1, 59);
        x.due(6, "hears", 2, 0);
        x.then("tell", 59, 1, SHUT);
        x.due(2, "hears", 1, 0);
    }
}
