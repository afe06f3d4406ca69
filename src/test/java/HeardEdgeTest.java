/** The boundary cases of promises 23 to 27, what was heard and is learnt; for each a test of its own. */
public final class HeardEdgeTest {
    private static final int NONE = Shelf.NONE, BAD = Shelf.BAD, FULL = Shelf.FULL;
    private static final int TURNED = Shelf.TURNED, SHUT = Shelf.SHUT;
    private static final int OPENS = Shelf.OPENS;
    private static final int[] STEPS = {0, 59};
    private static final String NINE_AT_ONCE = "l19;l19;l19;l19;l19;l19;l19;l19;l19";
    private static final String NINE_EMPTY = "x19;x19;x19;x19;x19;x19;x19;x19;x19";

    private static final Check CHECK = new Check();

    private HeardEdgeTest() { }

    public static void main(String[] args) {
        heardOutside();
        heardInside();
        theNinthHeard();
        heardTwice();
        forgetNothing();
        forgetEight();

        learnOutside();
        learnAllLaws();
        learnNoLaw();
        learnByAllEight();
        learnNumbersOfTurns();
        learnNumbersOfPlaces();
        learnNumbersOfThoseUp();
        learnNoneAndNineHeard();
        learnInTheLastStep();
        learnBySpring();
        learnLeavesTheLaw();

        emptyOfNoBoxes();
        emptyOfNothingHeard();
        emptyByNoneOrOneOrAll();
        emptyThatCannotBe();
        emptyThoughItWasTurned();

        turnOutside();
        turnFirstAndLastStep();
        turnTheLastBox();
        turnLeastOfLikeOnes();
        turnWithNoLawLeft();
        turnOfThoseThatThereAre();
        turnWithToldTurns();
        turnChangesNothing();
        CHECK.end();
    }

    private static Shelf shelf(String about, String text) {
        return new Shelf(CHECK, about, text);
    }

    private static void dueLaws(Shelf x, int box, int... codes) {
        x.due(codes.length, "learn", box, NONE);
        for (int i = 0; i < codes.length; i++) {
            x.due(codes[i], "learn", box, i);
        }
        if (codes.length <= 36) {
            x.due(NONE, "learn", box, codes.length);
            x.due(NONE, "learn", box, 36);
        }
    }

    // ---- 23, 24

    private static void heardOutside() {
        shelf("23 none heard", "l19").refusedOutside(BAD, "heard", STEPS, Shelf.to(0, 9));
        shelf("23 one heard", "l19").then("heard", 0, 1).refusedOutside(BAD, "heard", STEPS, Shelf.to(0, 9));
    }

    private static void heardInside() {
        Shelf x = shelf("23 the first and the last of each", "l19");
        x.due(1, "heard", 0, 0);
        x.due(2, "heard", 59, 0);
        x.due(3, "heard", 0, 9);
        x.due(4, "heard", 59, 9);
        x.due(4, "count", 3);
    }

    private static void theNinthHeard() {
        Shelf x = shelf("23 8 at most", "l19");
        for (int many = 1; many <= 8; many++) {
            x.due(many, "heard", 0, 1);
        }
        x.refused(FULL, "heard", 0, 0);
        x.refused(FULL, "heard", 59, 9);
        x.refused(BAD, "heard", 60, 0);
        x.refused(BAD, "heard", 0, 10);
        x.refused(BAD, "heard", -1, -1);
        x.due(8, "count", 3);
        dueLaws(x, 0, 21);
    }

    private static void heardTwice() {
        Shelf x = shelf("23 the same twice", "l19");
        x.due(1, "heard", 0, 1);
        x.due(2, "heard", 0, 1);
        dueLaws(x, 0, 21);
    }

    private static void forgetNothing() {
        Shelf x = shelf("24 none", "l19");
        x.due(0, "forget");
        x.due(0, "count", 3);
        x.due(37, "learn", 0, NONE);
    }

    private static void forgetEight() {
        Shelf x = shelf("24 eight", "l19");
        for (int k = 0; k < 8; k++) {
            x.then("heard", 0, 9);
        }
        dueLaws(x, 0);
        x.due(8, "forget");
        x.due(0, "count", 3);
        x.due(37, "learn", 0, NONE);
        x.due(0, "forget");
        x.due(1, "heard", 0, 1);
    }

    // ---- 25

    private static void learnOutside() {
        shelf("25 nine boxes", NINE_AT_ONCE).refusedOutside(BAD, "learn", Shelf.to(0, 8), Shelf.to(NONE, 36));
        shelf("25 one box", "x11").refusedOutside(BAD, "learn", Shelf.to(0, 0), Shelf.to(NONE, 36));
        shelf("25 no boxes", "").refused(BAD, "learn", 0, NONE);
        Shelf none = shelf("25 no law is left", "x11").then("heard", 0, 9);
        none.refused(BAD, "learn", 0, 37);
        none.refused(BAD, "learn", 0, -2);
    }

    private static void learnAllLaws() {
        Shelf x = shelf("25 nothing heard", NINE_EMPTY);
        dueLaws(x, 8, 1, 2, 3, 4, 5, 6, 7, 8, 9, 11, 12, 13, 14, 15, 16, 17, 18, 19,
            21, 22, 23, 24, 25, 26, 27, 28, 29, 31, 32, 33, 34, 35, 36, 37, 38, 39, 40);
        x.due(37, "learn", 0, NONE);
    }

    private static void learnNoLaw() {
        Shelf x = shelf("25 no law comes out so", "x11").then("heard", 0, 2);
        dueLaws(x, 0);
        x.due(NONE, "learn", 0, 0);
    }

    /** By l1 to l8 it would open in one of STEPS 0 to 7, by l9 in STEP 8, of which nothing was heard. */
    private static void learnByAllEight() {
        Shelf x = shelf("25 each of eight heard", "x19");
        for (int step = 0; step <= 7; step++) {
            x.then("heard", step, 0);
        }
        dueLaws(x, 0, 1, 2, 3, 4, 5, 6, 7, 8, 9, 11, 12, 13, 14, 15, 16, 17, 18, 19,
            29, 31, 32, 33, 34, 35, 36, 37, 38, 39, 40);
    }

    private static void learnNumbersOfTurns() {
        Shelf x = shelf("25 t9, l9", "x19");
        for (int step = 0; step <= 8; step++) {
            x.then("tell", step, 0, TURNED);
        }
        x.then("heard", 8, 1);
        dueLaws(x, 0, 9, 29);
        x.then("forget").then("heard", 0, 1);
        dueLaws(x, 0, 1, 21);
    }

    private static void learnNumbersOfPlaces() {
        Shelf x = shelf("25 e8, e9", "t19;x19").then("tell", 0, 0, TURNED).then("swap", 1, 8).then("heard", 1, 1);
        dueLaws(x, 1, 18, 19, 22, 31);
        x.then("swap", 8, 7);
        dueLaws(x, 1, 17, 18, 19, 22, 31);
    }

    private static void learnNumbersOfThoseUp() {
        Shelf x = shelf("25 w8, w9", "l19;l19;l19;l19;l19;l19;l19;l19;x19").then("heard", 1, 1);
        dueLaws(x, 8, 11, 12, 13, 14, 15, 16, 17, 18, 19, 22, 31, 32, 33, 34, 35, 36, 37, 38);
        x.then("forget").then("heard", 1, 0);
        dueLaws(x, 8, 1, 2, 3, 4, 5, 6, 7, 8, 9, 21, 23, 24, 25, 26, 27, 28, 29, 39, 40);
    }

    private static void learnNoneAndNineHeard() {
        Shelf nine = shelf("25 nine heard", NINE_AT_ONCE).then("heard", 0, 9);
        dueLaws(nine, 0, 21);
        dueLaws(nine, 8, 21);
        Shelf eight = shelf("25 nine heard of eight", NINE_AT_ONCE.substring(0, 31)).then("heard", 0, 9);
        dueLaws(eight, 0);
    }

    private static void learnInTheLastStep() {
        Shelf x = shelf("25 heard in STEP 59", "x19").then("tell", 59, 0, TURNED).then("heard", 59, 1);
        dueLaws(x, 0, 1);
        x.then("tell", 58, 0, TURNED);
        dueLaws(x, 0, 2);
        // l2, up since STEP 1, is shut in 57 and unseen in 58 and 59
        x.then("tell", 57, 0, SHUT);
        dueLaws(x, 0, 2, 22);
    }

    private static void learnBySpring() {
        for (int spring = 1; spring <= 2; spring++) {
            Shelf x = shelf("25 its SPRING as told", "x1" + spring).then("tell", 0, 0, SHUT);
            x.then("heard", 0, 1).then("heard", 1, 1);
            dueLaws(x, 0, spring == 1 ? new int[0] : new int[] {21});
        }
    }

    private static void learnLeavesTheLaw() {
        Shelf x = shelf("25 its LAW stays", "x19").then("heard", 0, 1);
        dueLaws(x, 0, 21);
        x.due(4, "box", 0, 0);
        x.due(0, "count", 6);
    }

    // ---- 26

    private static void emptyOfNoBoxes() {
        shelf("26 no boxes", "").due(0, "empty");
        shelf("26 no boxes, nothing heard of them", "").then("heard", 0, 0).due(0, "empty");
        shelf("26 by a FAULT none", "l19;").due(0, "empty");
    }

    private static void emptyOfNothingHeard() {
        shelf("26 nothing heard", "l19").due(1, "empty");
        shelf("26 nothing heard", NINE_AT_ONCE).due(511, "empty");
    }

    private static void emptyByNoneOrOneOrAll() {
        Shelf x = shelf("26 nine are there", NINE_AT_ONCE).then("heard", 0, 8);
        x.due(511, "empty");
        x.then("forget").then("heard", 0, 9);
        x.due(0, "empty");
        Shelf last = shelf("26 the last alone", "l19;l19;l19;l19;l19;l19;l19;l19;l29").then("heard", 1, 0);
        last.due(256, "empty");
        last.then("heard", 0, 8);
        last.due(256, "empty");
        last.then("heard", 59, 0);
        last.due(256, "empty");
    }

    private static void emptyThatCannotBe() {
        Shelf x = shelf("26 it cannot be", "x11;x11").then("heard", 59, 0);
        x.due(3, "empty");
        x.then("heard", 59, 1);
        x.due(0, "empty");
    }

    private static void emptyThoughItWasTurned() {
        Shelf x = shelf("26 x in place of t", "t19;t19").then("tell", 0, 0, TURNED).then("heard", 0, 0);
        x.due(1, "empty");
        x.then("tell", 59, 1, TURNED).then("heard", 59, 0);
        x.due(0, "empty");
    }

    // ---- 27

    private static void turnOutside() {
        shelf("27 nine boxes", NINE_AT_ONCE).refusedOutside(BAD, "turn", Shelf.to(0, 8), STEPS);
        shelf("27 one box", "x11").refusedOutside(BAD, "turn", Shelf.to(0, 0), STEPS);
        shelf("27 no boxes", "").refused(BAD, "turn", 0, 0);
    }

    private static void turnFirstAndLastStep() {
        Shelf x = shelf("27 by t1 it opens if it is turned itself", "x11;x11;x11");
        x.due(2, "turn", 2, 0);
        x.due(2, "turn", 2, 59);
        x.due(0, "turn", 0, 0);
        x.due(0, "turn", 0, 59);
        shelf("27 one box", "x11").due(0, "turn", 0, 59);
    }

    private static void turnTheLastBox() {
        Shelf x = shelf("27 the ninth", NINE_EMPTY);
        x.due(8, "turn", 8, 0);
        x.due(8, "turn", 8, 59);
        Shelf nine = shelf("27 nine open at once", "l19;l19;l19;l19;l19;l19;l19;l19;x19");
        nine.due(8, "turn", 8, 0);
    }

    private static void turnLeastOfLikeOnes() {
        Shelf x = shelf("27 under LIDS all are alike", "x11;x11;x11").then("lids", 7);
        x.due(0, "turn", 2, 0);
        x.then("lids", 4);
        x.due(0, "turn", 2, 59);
        x.then("lids", 3);
        x.due(2, "turn", 2, 59);
    }

    private static void turnWithNoLawLeft() {
        Shelf x = shelf("27 no law is left", "x11;x11;x11").then("heard", 0, 9);
        x.due(0, "turn", 2, 0);
        x.due(0, "turn", 2, 59);
    }

    /** t1 and l1 are left. Shut in STEP 4, l1 opens in 5, and t1 does if it is turned: its own turn tells nothing. */
    private static Shelf hidden(String text) {
        return shelf("27 of \"" + text + "\"", text)
            .then("tell", 0, 0, TURNED).then("tell", 4, 0, SHUT).then("heard", 0, 1);
    }

    private static void turnOfThoseThatThereAre() {
        hidden("t12").due(0, "turn", 0, 5);
        hidden("t12;x11").due(1, "turn", 0, 5);
        hidden("t12;x11;x11").due(1, "turn", 0, 5);
    }

    /** What is told already is so once: turned or not, box 1 is turned in STEP 3. */
    private static void turnWithToldTurns() {
        Shelf x = shelf("27 TURNED as told, too", "x11;x11");
        x.due(1, "turn", 1, 3);
        x.then("tell", 3, 1, TURNED);
        x.due(0, "turn", 1, 3);
    }

    private static void turnChangesNothing() {
        Shelf x = shelf("27 nothing is told", "t19;x11");
        x.due(0, "turn", 0, 0);
        x.due(0, "count", 2);
        x.due(0, "step", 0, OPENS);
        x.due(NONE, "first", 0);
    }
}
