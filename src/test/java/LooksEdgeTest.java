import java.math.BigInteger;

/** The boundary cases of promises 28 and 29, looks by chance and nights; for each a test of its own. */
public final class LooksEdgeTest {
    private static final int BAD = Shelf.BAD;
    private static final int TURNED = Shelf.TURNED, LOOKED = Shelf.LOOKED, SHUT = Shelf.SHUT;
    private static final int[] EITHER = {0, 1};
    private static final int MANY = 0, UP = 1;
    private static final String NINE_TURNED = "t19;t19;t19;t19;t19;t19;t19;t19;t19";

    private static final Check CHECK = new Check();

    private LooksEdgeTest() { }

    public static void main(String[] args) {
        looksOutside();
        refusalsAsALong();
        looksByNoneAndAllSixteenths();
        looksInStep0();
        looksInStep9();
        looksByTheGreatestNumber();
        looksInLowestTerms();
        looksInPlaceOfToldOnes();
        looksWithTurnsAndShuts();
        looksBySpring();
        looksAtOtherLaws();
        looksAtTheLastBox();
        looksChangeNothing();

        nightOutside();
        nightOfNoBoxes();
        nightStep0();
        nightStep59();
        nightWithOneBox();
        seedsThatWrap();
        lotsOfOneToNine();
        nightWithToldTurns();
        nightUnderLids();
        nightChangesNothing();
        CHECK.end();
    }

    private static Shelf shelf(String about, String text) {
        return new Shelf(CHECK, about, text);
    }

    private static void dueChance(Shelf x, int c, int box, int step, long above, long below) {
        x.due(above, "looks", c, box, step, 0);
        x.due(below, "looks", c, box, step, 1);
    }

    // ---- 28

    private static void looksOutside() {
        int[] sixteenths = Shelf.to(0, 16), steps = Shelf.to(0, 9);
        shelf("28 one box", "l19").refusedOutside(Shelf.LONG_BAD, "looks", sixteenths, Shelf.to(0, 0), steps, EITHER);
        shelf("28 nine boxes", NINE_TURNED)
            .refusedOutside(Shelf.LONG_BAD, "looks", sixteenths, Shelf.to(0, 8), steps, EITHER);
        shelf("28 no boxes", "").refused(Shelf.LONG_BAD, "looks", 0, 0, 0, 0);
        shelf("28 by a FAULT none", "l19;").refused(Shelf.LONG_BAD, "looks", 0, 0, 0, 1);
    }

    private static void refusalsAsALong() {
        shelf("28 the least long and 2 more", "").due(-9223372036854775806L, "looks", 0, 0, 0, 0);
    }

    private static void looksByNoneAndAllSixteenths() {
        Shelf x = shelf("28 c from 0 to 16", "l19");
        dueChance(x, 0, 0, 0, 1, 1);
        dueChance(x, 1, 0, 0, 15, 16);
        dueChance(x, 15, 0, 0, 1, 16);
        dueChance(x, 16, 0, 0, 0, 1);
        dueChance(x, 0, 0, 9, 1, 1);
        dueChance(x, 16, 0, 9, 0, 1);
    }

    private static void looksInStep0() {
        Shelf x = shelf("28 STEP 0", "l19;l29");
        dueChance(x, 3, 0, 0, 13, 16);
        dueChance(x, 0, 1, 0, 0, 1);
        dueChance(x, 3, 1, 0, 0, 1);
        dueChance(x, 3, 1, 1, 169, 256);
    }

    /** By l1 it stays shut only if it is looked at ten times. */
    private static void looksInStep9() {
        Shelf x = shelf("28 STEP 9", "l19");
        long whole = 1L << 40;
        dueChance(x, 1, 0, 9, whole - 1, whole);
        dueChance(x, 15, 0, 9, whole - 576650390625L, whole);
        dueChance(x, 15, 0, 8, (1L << 36) - 38443359375L, 1L << 36);
        dueChance(x, 8, 0, 9, 1023, 1024);
    }

    /** By l9 it must be unseen in the first nine STEPS, or looked at in STEP 0 and unseen in the nine behind it. */
    private static void looksByTheGreatestNumber() {
        Shelf x = shelf("28 l9", "l99");
        dueChance(x, 0, 0, 7, 0, 1);
        dueChance(x, 0, 0, 8, 1, 1);
        dueChance(x, 15, 0, 7, 0, 1);
        dueChance(x, 15, 0, 8, 1, 1L << 36);
        dueChance(x, 15, 0, 9, 31, 1L << 40);
        dueChance(x, 1, 0, 9, 17 * 38443359375L, 1L << 40);
    }

    private static void looksInLowestTerms() {
        Shelf x = shelf("28 lowest terms", "l19;x11");
        dueChance(x, 2, 0, 0, 7, 8);
        dueChance(x, 4, 0, 0, 3, 4);
        dueChance(x, 8, 0, 0, 1, 2);
        dueChance(x, 12, 0, 0, 1, 4);
        dueChance(x, 14, 0, 0, 1, 8);
        dueChance(x, 14, 0, 1, 15, 64);
        dueChance(x, 5, 1, 9, 0, 1);
    }

    private static void looksInPlaceOfToldOnes() {
        Shelf x = shelf("28 in place of what is told", "l19;l19");
        for (int step = 0; step <= 9; step++) {
            x.then("tell", step, 0, LOOKED).then("tell", step, 1, LOOKED);
        }
        dueChance(x, 0, 0, 0, 1, 1);
        dueChance(x, 0, 0, 9, 1, 1);
        dueChance(x, 8, 0, 9, 1023, 1024);
        dueChance(x, 0, 1, 0, 1, 1);
        x.due(10, "first", 0);
    }

    private static void looksWithTurnsAndShuts() {
        Shelf x = shelf("28 turns and shuts stay told", "l19;t19").then("tell", 9, 0, SHUT).then("tell", 9, 1, TURNED);
        dueChance(x, 0, 0, 8, 1, 1);
        dueChance(x, 0, 0, 9, 0, 1);
        dueChance(x, 8, 1, 8, 0, 1);
        dueChance(x, 8, 1, 9, 1, 1);
    }

    /** Shut in STEP 0: with a SPRING of 1 it is up behind STEP 1 only if it was looked at ahead of it. */
    private static void looksBySpring() {
        Shelf one = shelf("28 a SPRING of 1", "l11").then("tell", 0, 0, SHUT);
        dueChance(one, 8, 0, 1, 1, 4);
        dueChance(one, 4, 0, 1, 3, 16);
        Shelf two = shelf("28 a SPRING of 2", "l12").then("tell", 0, 0, SHUT);
        dueChance(two, 8, 0, 1, 1, 2);
        dueChance(two, 4, 0, 1, 3, 4);
    }

    private static void looksAtOtherLaws() {
        Shelf x = shelf("28 no look keeps these shut", "t19;e19;w19;x19").then("tell", 0, 0, TURNED);
        for (int c = 0; c <= 16; c += 16) {
            dueChance(x, c, 0, 0, 1, 1);
            dueChance(x, c, 1, 0, 0, 1);
            dueChance(x, c, 1, 1, 1, 1);
            dueChance(x, c, 2, 9, 1, 1);
            dueChance(x, c, 3, 9, 0, 1);
        }
        x.then("lids", 1);
        dueChance(x, 0, 0, 9, 0, 1);
    }

    private static void looksAtTheLastBox() {
        Shelf x = shelf("28 the ninth", "x19;x19;x19;x19;x19;x19;x19;x19;l19");
        dueChance(x, 4, 8, 0, 3, 4);
        x.then("lids", 256);
        dueChance(x, 4, 8, 9, 0, 1);
    }

    private static void looksChangeNothing() {
        Shelf x = shelf("28 told looks stay", "l19").then("tell", 0, 0, LOOKED);
        dueChance(x, 8, 0, 9, 1023, 1024);
        x.due(1, "count", 2);
        x.due(1, "first", 0);
    }

    // ---- 29

    private static void nightOutside() {
        for (String text : new String[] {"", "t19", NINE_TURNED}) {
            Shelf x = shelf("29 of \"" + text + "\"", text);
            for (int wrong : new int[] {-1, 60, Integer.MIN_VALUE, Integer.MAX_VALUE}) {
                x.refused(BAD, "night", 0, wrong, 0);
                x.refused(BAD, "night", -1, wrong, 1);
            }
            for (int wrong : new int[] {-1, 2, Integer.MIN_VALUE, Integer.MAX_VALUE}) {
                x.refused(BAD, "night", 0, 0, wrong);
                x.refused(BAD, "night", 0, 59, wrong);
            }
        }
    }

    private static void nightOfNoBoxes() {
        for (String text : new String[] {"", "t19;"}) {
            Shelf x = shelf("29 no boxes, of \"" + text + "\"", text).then("tell", 0, 0, TURNED);
            for (int what = MANY; what <= UP; what++) {
                x.due(0, "night", 0, 0, what);
                x.due(0, "night", Integer.MIN_VALUE, 59, what);
            }
        }
    }

    private static void nightStep0() {
        Shelf x = shelf("29 STEP 0", "t19;t29");
        // by SEED 0 the SEED is 12345, whose upper bits are 0
        x.due(1, "night", 0, 0, MANY);
        x.due(1, "night", 0, 0, UP);
        x.due(0, "step", 0, 0);
    }

    /** Turned every night, t9 opens in STEP 8; shut in 50, it is turned for the ninth time since in STEP 59. */
    private static void nightStep59() {
        Shelf x = shelf("29 STEP 59", "t99").then("tell", 50, 0, SHUT);
        x.due(0, "night", 5, 7, MANY);
        x.due(1, "night", 5, 8, MANY);
        x.due(1, "night", 5, 58, MANY);
        x.due(0, "night", 5, 58, UP);
        x.due(2, "night", 5, 59, MANY);
        x.due(1, "night", 5, 59, UP);
    }

    private static void nightWithOneBox() {
        for (int seed : new int[] {0, 1, -1, Integer.MIN_VALUE, Integer.MAX_VALUE}) {
            Shelf x = shelf("29 one box, SEED " + seed, "t29");
            x.due(0, "night", seed, 0, MANY);
            x.due(1, "night", seed, 1, MANY);
            x.due(1, "night", seed, 1, UP);
        }
    }

    private static void seedsThatWrap() {
        Shelf x = shelf("29 SEEDS that wrap", NINE_TURNED);
        // the upper bits are 0, 16838, 48697, 15929, 32768, modulo 9
        x.due(1, "night", 0, 0, UP);
        x.due(1 << 16838 % 9, "night", 1, 0, UP);
        x.due(1 << 7, "night", -1, 0, UP);
        x.due(1 << 8, "night", Integer.MAX_VALUE, 0, UP);
        x.due(1 << 8, "night", Integer.MIN_VALUE, 0, UP);
    }

    /** Of t1 boxes, those are up that came by lot. */
    private static int upByLots(int seed, int step, int boxes) {
        BigInteger ints = BigInteger.ONE.shiftLeft(32);
        BigInteger now = BigInteger.valueOf(seed).mod(ints);
        int up = 0;
        for (int s = 0; s <= step; s++) {
            now = now.multiply(BigInteger.valueOf(1103515245)).add(BigInteger.valueOf(12345)).mod(ints);
            up |= 1 << now.shiftRight(16).mod(BigInteger.valueOf(boxes)).intValue();
        }
        return up;
    }

    private static void lotsOfOneToNine() {
        int[] seeds = {0, 1, -1, 7, 65535, 65536, Integer.MIN_VALUE, Integer.MAX_VALUE};
        for (int boxes = 1; boxes <= 9; boxes++) {
            for (int seed : seeds) {
                Shelf x = shelf("29 SEED " + seed + " of " + boxes, NINE_TURNED.substring(0, 4 * boxes - 1));
                for (int step = 0; step <= 59; step += step < 9 ? 1 : 10) {
                    int up = upByLots(seed, step, boxes);
                    x.due(up, "night", seed, step, UP);
                    x.due(Integer.bitCount(up), "night", seed, step, MANY);
                }
            }
        }
    }

    private static void nightWithToldTurns() {
        Shelf x = shelf("29 turned by lot and as told", "t29;t19").then("tell", 0, 0, TURNED);
        // SEED 0 turns box 0 in STEP 0; told and by lot it is turned once
        x.due(0, "night", 0, 0, MANY);
        x.then("tell", 0, 1, TURNED);
        x.due(2, "night", 0, 0, UP);
        x.due(1, "night", 0, 0, MANY);
    }

    private static void nightUnderLids() {
        Shelf x = shelf("29 under LIDS", NINE_TURNED).then("lids", 511);
        x.due(0, "night", 7, 59, MANY);
        x.due(0, "night", 7, 59, UP);
    }

    private static void nightChangesNothing() {
        Shelf x = shelf("29 nothing is told by a night", NINE_TURNED);
        x.then("night", 7, 59, MANY);
        x.due(0, "count", 2);
        x.due(0, "count", 6);
        x.due(1, "night", 0, 0, MANY);
    }
}
