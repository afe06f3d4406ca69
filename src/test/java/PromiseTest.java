/** Each promise of the document by answers worked out by hand: ordinary inputs, edges, wrong inputs. */
public final class PromiseTest {
    private static final int NONE = -1, BAD = -2, NOT = -3, FULL = -4;
    private static final int NULL = -11, INDEX = -12, CAST = -13, STORE = -14, SIZE = -15;
    private static final int TURNED = 0, LOOKED = 1, SHUT = 2;
    private static final int OPENS = 0, UP = 1;
    private static final int LEAST = Integer.MIN_VALUE;
    private static final String NINE = "t11;e12;l13;w14;x15;t26;e37;l48;w59";

    private static final Check CHECK = new Check();

    private PromiseTest() { }

    public static void main(String[] args) {
        aNewObject();
        type();
        wipeAndUndo();
        fault();
        box();
        placeAndSwap();
        lids();
        tellAndBack();
        read();
        readToTheLimit();
        readNothing();
        stepByTurns();
        stepByAnother();
        stepUnseen();
        stepByHowManyAreUp();
        stepBasics();
        spring();
        quiet();
        loudest();
        first();
        together();
        newsAndHears();
        hush();
        shelf();
        heardAndForget();
        learn();
        empty();
        turn();
        looks();
        night();
        sheetAndLose();
        layAndGet();
        copy();
        write();
        count();
        digest();
        digestOfRuns();
        CHECK.end();
    }

    private static void due(String call, long got, long want) {
        CHECK.due(call, got, want);
    }

    private static JackBoxes boxes(String text) {
        JackBoxes x = new JackBoxes();
        typeAll(x, text);
        return x;
    }

    private static void typeAll(JackBoxes x, String text) {
        for (char sign : text.toCharArray()) {
            x.type(sign);
        }
    }

    private static void aNewObject() {
        JackBoxes x = new JackBoxes();
        for (int what = 0; what <= 8; what++) {
            due("1 new count(" + what + ")", x.count(what), 0);
        }
        due("1 new fault", x.fault(), NONE);
        for (int s = 0; s < 4; s++) {
            due("1 new lose(" + s + ")", x.lose(s), NULL);
        }
    }

    private static void type() {
        JackBoxes x = new JackBoxes();
        due("2 type(-1)", x.type(-1), BAD);
        due("2 type(256)", x.type(256), BAD);
        due("2 type(0)", x.type(0), 1);
        due("2 type(255)", x.type(255), 2);
        for (int k = 3; k <= 35; k++) {
            due("2 type up to 35", x.type('t'), k);
        }
        due("2 type the 36th", x.type('t'), FULL);
        due("2 BAD ahead of FULL", x.type(256), BAD);
        due("2 refusals change nothing", x.count(1), 35);
    }

    private static void wipeAndUndo() {
        JackBoxes x = new JackBoxes();
        due("3 wipe nothing", x.wipe(), 0);
        due("4 undo nothing", x.undo(), NOT);
        typeAll(x, "x11;x12");
        x.tell(1, 0, TURNED);
        x.lids(2);
        x.swap(0, 3);
        x.heard(4, 4);
        due("4 undo", x.undo(), 6);
        due("4 an undone byte spoils the text", x.count(0), 0);
        due("3 wipe", x.wipe(), 6);
        due("3 wiped bytes", x.count(1), 0);
        due("3 wiped fault", x.fault(), NONE);
        due("3 told steps stay", x.count(2), 1);
        due("3 heard stays", x.count(3), 1);
        due("3 lids stay", x.count(4), 2);
        due("3 the row stays", x.place(0), 3);
        typeAll(x, "l1");
        due("4 undo to one", x.undo(), 1);
        due("4 undo to none", x.undo(), 0);
        due("4 undo no more", x.undo(), NOT);
    }

    private static void faultOf(String text, int want) {
        due("5 fault of " + text, boxes(text).fault(), want);
        due("5 boxes by fault of " + text, boxes(text).count(0), want == NONE ? (text.length() + 1) / 4 : 0);
    }

    private static void fault() {
        faultOf("", NONE);
        faultOf("t", 1);
        faultOf("t1", 2);
        faultOf("t11", NONE);
        faultOf("t11;", 4);
        faultOf("t11;e", 5);
        faultOf("t11;e9", 6);
        faultOf("t11;e99", NONE);
        faultOf("T11", 0);
        faultOf("a", 0);
        faultOf(";", 0);
        faultOf("t01", 1);
        faultOf("t:1", 1);
        faultOf("t10", 2);
        faultOf("t1:", 2);
        faultOf("t1/", 2);
        faultOf("t11,", 3);
        faultOf("t11:e11", 3);
        faultOf("t11;;", 4);
        faultOf("t11;y11", 4);
        faultOf("t11;e11;q", 8);
        faultOf("t111", 3);
        faultOf((char) 0 + "", 0);
        faultOf((char) 255 + "", 0);
        faultOf(NINE, NONE);
    }

    private static void box() {
        JackBoxes x = boxes(NINE);
        int[] laws = {0, 1, 2, 3, 4, 0, 1, 2, 3};
        int[] numbers = {1, 1, 1, 1, 1, 2, 3, 4, 5};
        for (int b = 0; b < 9; b++) {
            due("6 law of " + b, x.box(b, 0), laws[b]);
            due("6 number of " + b, x.box(b, 1), numbers[b]);
            due("6 spring of " + b, x.box(b, 2), b + 1);
        }
        due("6 box(9, 0)", x.box(9, 0), BAD);
        due("6 box(-1, 0)", x.box(-1, 0), BAD);
        due("6 box(0, 3)", x.box(0, 3), BAD);
        due("6 box(0, -1)", x.box(0, -1), BAD);
        due("6 a box that there is not", boxes("t11").box(1, 0), BAD);
        due("6 none by a fault", boxes("t11;").box(0, 0), BAD);
    }

    private static void placeAndSwap() {
        JackBoxes x = new JackBoxes();
        for (int p = 0; p < 9; p++) {
            due("7 place(" + p + ")", x.place(p), p);
        }
        due("7 place(-1)", x.place(-1), BAD);
        due("7 place(9)", x.place(9), BAD);
        due("8 swap", x.swap(0, 8), 1);
        due("8 swap places, not boxes", x.swap(8, 4), 1);
        due("8 place 0", x.place(0), 8);
        due("8 place 4", x.place(4), 0);
        due("8 place 8", x.place(8), 4);
        due("8 one place", x.swap(3, 3), 0);
        due("8 swap(-1, 0)", x.swap(-1, 0), BAD);
        due("8 swap(0, -1)", x.swap(0, -1), BAD);
        due("8 swap(9, 0)", x.swap(9, 0), BAD);
        due("8 swap(0, 9)", x.swap(0, 9), BAD);
        due("8 swap(9, 9)", x.swap(9, 9), BAD);
    }

    private static void lids() {
        JackBoxes x = boxes("l11;l19");
        due("9 lids(1)", x.lids(1), 0);
        due("9 under a lid none opens", x.step(0, OPENS), 2);
        due("9 lids(-1)", x.lids(-1), BAD);
        due("9 lids(512)", x.lids(512), BAD);
        due("9 lids(511)", x.lids(511), 1);
        due("9 all under lids", x.count(6), 0);
        due("9 lids(0)", x.lids(0), 511);
        due("9 no lids", x.step(0, OPENS), 3);
    }

    private static void tellAndBack() {
        JackBoxes x = boxes("t19");
        due("11 back without any", x.back(), NOT);
        due("10 tell(-1, 0, 0)", x.tell(-1, 0, 0), BAD);
        due("10 tell(60, 0, 0)", x.tell(60, 0, 0), BAD);
        due("10 tell(0, -1, 0)", x.tell(0, -1, 0), BAD);
        due("10 tell(0, 9, 0)", x.tell(0, 9, 0), BAD);
        due("10 tell(0, 0, -1)", x.tell(0, 0, -1), BAD);
        due("10 tell(0, 0, 3)", x.tell(0, 0, 3), BAD);
        due("10 nothing told", x.count(2), 0);
        due("10 tell", x.tell(2, 0, TURNED), 1);
        due("10 told twice", x.tell(2, 0, TURNED), 2);
        due("10 a box that there is not", x.tell(59, 8, SHUT), 3);
        due("10 it opens", x.step(2, OPENS), 1);
        due("11 back", x.back(), 2);
        due("11 back once of two alike", x.back(), 1);
        due("11 it still opens", x.step(2, OPENS), 1);
        due("11 back to none", x.back(), 0);
        due("11 it opens no more", x.step(2, OPENS), 0);
        for (int k = 1; k <= 24; k++) {
            due("10 tell up to 24", x.tell(k, 0, LOOKED), k);
        }
        due("10 tell a 25th", x.tell(0, 0, 0), FULL);
        due("10 BAD ahead of FULL", x.tell(60, 0, 0), BAD);
    }

    private static void layAll(JackBoxes x, int s, int form, int... items) {
        x.sheet(s, form, items.length);
        for (int i = 0; i < items.length; i++) {
            x.lay(s, form, i, items[i]);
        }
    }

    private static void read() {
        JackBoxes x = boxes("t19");
        x.tell(9, 0, TURNED);
        layAll(x, 0, 2, 7, 0, 0, 8, 0, 2, 3, 0);
        due("12 read whole ones, a step, a box, an act", x.read(0), 2);
        due("12 they are told", x.first(0), 7);
        due("12 in this order", x.step(8, UP), 0);
        due("12 those before stay told", x.step(9, OPENS), 1);
        due("12 all together", x.count(2), 3);
        due("12 read once more", x.read(0), 2);
        due("12 five now", x.count(2), 5);
        layAll(x, 1, 1, 5, 0, 0, 60, 0, 0, 4, 0, 0);
        due("12 read as long as each may be", x.read(1), 1);
        due("12 none behind", x.first(0), 5);
        layAll(x, 1, 0, 5, 0, 0, 4, -1, 0, 3, 0, 0);
        due("12 a box below 0", x.read(1), 1);
        layAll(x, 1, 0, 5, 0, 0, 4, 0, 3, 3, 0, 0);
        due("12 an act that there is not", x.read(1), 1);
        due("12 none behind these", x.first(0), 5);
        due("12 eight are told", x.count(2), 8);
        due("12 read(4)", x.read(4), BAD);
        due("12 read(-1)", x.read(-1), BAD);
        due("12 read a LOST one", x.read(3), NULL);
        due("12 its finding", x.count(8), 1);
        due("12 refusals change nothing", x.count(2), 8);
        x.sheet(2, 0, 2);
        due("12 read two items", x.read(2), 0);
        due("12 none more is told", x.count(2), 8);
        due("12 the last that was read is undone first", x.back(), 7);
    }

    private static void readToTheLimit() {
        JackBoxes x = boxes("t19");
        x.sheet(0, 0, 60);
        due("12 read sixty items", x.read(0), 20);
        due("12 twenty are told", x.count(2), 20);
        x.tell(9, 1, TURNED);
        due("12 as many as are left", x.read(0), 3);
        due("12 twenty-four are told", x.count(2), 24);
        due("12 none is left", x.read(0), 0);
        due("12 a lost one when none is left", x.read(1), NULL);
        due("12 still twenty-four", x.tell(0, 0, TURNED), FULL);
        due("12 one is undone", x.back(), 23);
        layAll(x, 1, 2, 4, 0, 2, 5, 0, 0);
        due("12 there is one more", x.read(1), 1);
        due("12 up ahead of it", x.step(3, UP), 1);
        due("12 the first of them is told", x.step(4, UP), 0);
        due("12 the other is not", x.step(5, OPENS), 0);
    }

    private static void readNothing() {
        JackBoxes x = new JackBoxes();
        x.tell(0, 0, TURNED);
        due("12 a sheet without items", x.sheet(1, 0, 0), 0);
        due("12 tells nothing", x.read(1), 0);
        due("12 and what was told stays", x.back(), 0);
    }

    private static void stepByTurns() {
        JackBoxes x = boxes("t29");
        x.tell(0, 0, TURNED);
        x.tell(0, 0, TURNED);
        due("13 told twice is once", x.step(0, OPENS), 0);
        x.tell(4, 0, TURNED);
        due("13 t2 by the second turn", x.step(4, OPENS), 1);
        x.tell(5, 0, TURNED);
        x.tell(5, 0, SHUT);
        x.tell(6, 0, TURNED);
        due("13 a turn while up is none", x.step(6, OPENS), 0);
        x.tell(7, 0, TURNED);
        due("13 t2 again by two turns more", x.step(7, OPENS), 1);
        due("13 up between", x.step(4, UP), 1);
        due("13 shut", x.step(5, UP), 0);
        x = boxes("t19");
        x.tell(0, 0, TURNED);
        x.tell(0, 0, SHUT);
        x.tell(1, 0, TURNED);
        due("13 shut as it just opened", x.step(0, UP), 0);
        due("13 but it opened", x.step(0, OPENS), 1);
        due("13 and opens again", x.step(1, UP), 1);
    }

    private static void stepByAnother() {
        JackBoxes x = boxes("t19;x11;e29;e19");
        x.tell(0, 0, TURNED);
        due("13 e2 by one two places off", x.step(1, OPENS), 4);
        due("13 e1 by the next one", x.step(2, OPENS), 8);
        x.swap(2, 4);
        due("13 e2 four places off", x.step(1, OPENS), 0);
        x.swap(4, 2);
        x.tell(1, 2, SHUT);
        due("13 e2 by e1 that opened by it", x.step(3, OPENS), 4);
        x = boxes("e19;t19");
        x.tell(0, 1, TURNED);
        x.tell(1, 0, SHUT);
        due("13 e to the left", x.step(1, OPENS), 1);
        due("13 e not by itself", x.step(2, OPENS), 0);
        x = boxes("t19;e99;e89");
        x.swap(1, 8);
        x.tell(0, 0, TURNED);
        due("13 e9 over the whole row", x.step(1, OPENS), 6);
        x = boxes("t19;e89;e79");
        x.swap(1, 8);
        x.swap(2, 7);
        x.swap(0, 7);
        due("13 nothing without a turn", x.step(1, OPENS), 0);
        x.tell(0, 0, TURNED);
        due("13 e by places", x.step(1, OPENS), 6);
        x = boxes("t19;e19;x11;t19;e29");
        x.tell(0, 3, TURNED);
        due("13 e1 not by one two places to the right", x.step(1, OPENS), 16);
        x.tell(0, 0, TURNED);
        due("13 by either of two that opened at once", x.step(1, OPENS), 18);
    }

    private static void stepUnseen() {
        JackBoxes x = boxes("l39");
        due("13 l3 not at once", x.step(1, UP), 0);
        due("13 l3 in the third step", x.step(2, OPENS), 1);
        x.tell(1, 0, LOOKED);
        due("13 a look puts it off", x.first(0), 4);
        x.tell(4, 0, LOOKED);
        due("13 a look in the step itself", x.first(0), 7);
        x = boxes("l29");
        x.tell(1, 0, SHUT);
        due("13 shut at once, two steps more", x.step(2, OPENS), 0);
        due("13 open again", x.step(3, OPENS), 1);
        x.tell(5, 0, SHUT);
        due("13 the step in which it is shut does not count", x.step(6, OPENS), 0);
        due("13 two steps behind it", x.step(7, OPENS), 1);
        x = boxes("l19");
        x.tell(0, 0, LOOKED);
        x.tell(3, 0, LOOKED);
        due("13 a look at one that is up", x.step(4, UP), 1);
        due("13 it opened once", x.count(6), 1);
    }

    private static void stepByHowManyAreUp() {
        JackBoxes x = boxes("t19;t19;w19;w29;w39;w99");
        x.tell(3, 0, TURNED);
        x.tell(3, 1, TURNED);
        due("13 both", x.step(3, OPENS), 3);
        due("13 w1, w2 by two", x.step(4, OPENS), 12);
        due("13 w3 by four", x.step(5, OPENS), 16);
        due("13 w9 by five not", x.step(59, UP), 31);
        x.tell(3, 0, SHUT);
        due("13 shut ones are not up", x.step(4, OPENS), 4);
    }

    private static void stepBasics() {
        JackBoxes x = boxes("x99;l19");
        for (int s = 0; s < 4; s++) {
            x.tell(s, 0, TURNED);
        }
        due("13 x never", x.step(59, UP), 2);
        due("13 step(-1, 0)", x.step(-1, 0), BAD);
        due("13 step(60, 0)", x.step(60, 0), BAD);
        due("13 step(0, -1)", x.step(0, -1), BAD);
        due("13 step(0, 2)", x.step(0, 2), BAD);
        due("13 none by a fault", boxes("l19;").step(59, UP), 0);
        x.type(';');
        due("13 asked again, with a byte more", x.step(59, UP), 0);
        x.undo();
        due("13 asked again, with a byte less", x.step(59, UP), 2);
        x.wipe();
        due("13 asked again, wiped", x.step(59, UP), 0);
    }

    private static void spring() {
        JackBoxes x = boxes("l13");
        for (int s = 0; s < 5; s++) {
            x.tell(s, 0, SHUT);
        }
        due("14 behind step 0", x.spring(0, 0), 2);
        due("14 behind step 1", x.spring(1, 0), 1);
        due("14 behind step 2", x.spring(2, 0), 0);
        due("14 behind step 59", x.spring(59, 0), 0);
        due("14 without spring it does not open", x.step(3, OPENS), 0);
        due("14 spring(60, 0)", x.spring(60, 0), BAD);
        due("14 spring(-1, 0)", x.spring(-1, 0), BAD);
        due("14 spring(0, 1)", x.spring(0, 1), BAD);
        due("14 spring(0, -1)", x.spring(0, -1), BAD);
    }

    private static void quiet() {
        due("15 no boxes", new JackBoxes().quiet(), 0);
        due("15 l4", boxes("l49").quiet(), 4);
        JackBoxes x = boxes("t19;t19");
        x.tell(58, 0, TURNED);
        due("15 up to step 58", x.quiet(), 59);
        x.tell(59, 1, TURNED);
        due("15 up to step 59", x.quiet(), NONE);
    }

    private static void loudest() {
        JackBoxes x = boxes("l19;l39;l39;t19;t19");
        due("16 step", x.loudest(0), 2);
        due("16 how many", x.loudest(1), 2);
        x.tell(1, 3, TURNED);
        x.tell(1, 4, TURNED);
        due("16 of like ones the first", x.loudest(0), 1);
        x.lids(30);
        due("16 in step 0", x.loudest(0), 0);
        x.lids(511);
        due("16 none: step", x.loudest(0), NONE);
        due("16 none: how many", x.loudest(1), NONE);
        due("16 loudest(2)", x.loudest(2), BAD);
        due("16 loudest(-1)", x.loudest(-1), BAD);
    }

    private static void first() {
        JackBoxes x = boxes("l59;x11;t19");
        x.tell(59, 2, TURNED);
        due("17 l5", x.first(0), 4);
        due("17 x", x.first(1), NONE);
        due("17 in step 0", boxes("l19").first(0), 0);
        due("17 in step 59", x.first(2), 59);
        due("17 first(3)", x.first(3), BAD);
        due("17 first(-1)", x.first(-1), BAD);
    }

    private static void together() {
        JackBoxes x = boxes("l13;l31;x11");
        due("18 from step 2 on", x.together(0, 1), 58);
        due("18 the other way", x.together(1, 0), 58);
        x.tell(10, 0, SHUT);
        due("18 one is shut behind step 10", x.together(0, 1), 57);
        x.tell(20, 1, SHUT);
        due("18 up to step 19", x.together(0, 1), 17);
        due("18 never", x.together(0, 2), 0);
        due("18 in all steps", boxes("l19;l19").together(0, 1), 60);
        due("18 one twice", x.together(1, 1), BAD);
        due("18 together(0, 3)", x.together(0, 3), BAD);
        due("18 together(3, 0)", x.together(3, 0), BAD);
        due("18 together(-1, 0)", x.together(-1, 0), BAD);
    }

    private static void newsAndHears() {
        // 0 is up from 0 to 4, 1 from 3 to 9, 2 from 7 on, 3 never
        JackBoxes x = boxes("l11;l41;l81;x11");
        x.tell(5, 0, SHUT);
        x.tell(10, 1, SHUT);
        due("19 as both are up", x.news(0, 0, 1), 3);
        due("19 by one between", x.news(0, 0, 2), 7);
        due("19 in the last step", x.news(0, 4, 2), 7);
        due("19 too late", x.news(0, 5, 2), NONE);
        due("19 back in time not", x.news(2, 0, 0), NONE);
        due("19 to the one between", x.news(2, 0, 1), 7);
        due("19 from a step on", x.news(2, 8, 1), 8);
        due("19 never up", x.news(0, 0, 3), NONE);
        due("19 one twice", x.news(1, 0, 1), BAD);
        due("19 news(4, 0, 0)", x.news(4, 0, 0), BAD);
        due("19 news(0, 0, 4)", x.news(0, 0, 4), BAD);
        due("19 news(0, 60, 1)", x.news(0, 60, 1), BAD);
        due("19 news(0, -1, 1)", x.news(0, -1, 1), BAD);
        due("20 all three", x.hears(0, 0), 7);
        due("20 too late", x.hears(0, 5), 1);
        due("20 from the last", x.hears(2, 0), 6);
        due("20 itself alone", x.hears(3, 0), 8);
        due("20 in step 59", x.hears(2, 59), 4);
        due("20 hears(4, 0)", x.hears(4, 0), BAD);
        due("20 hears(-1, 0)", x.hears(-1, 0), BAD);
        due("20 hears(0, 60)", x.hears(0, 60), BAD);
        due("20 hears(0, -1)", x.hears(0, -1), BAD);
    }

    private static void hush() {
        JackBoxes x = boxes("e19;t19");
        x.tell(0, 1, TURNED);
        due("21 none is up yet without the turned one", x.hush(0, 1), 2);
        due("21 one lid for both", x.hush(2, 0), 1);
        due("21 that of the turned one", x.hush(2, 1), 2);
        x.tell(1, 1, SHUT);
        due("21 of like ones the least", x.hush(2, 1), 1);
        x.lids(2);
        due("21 lids that are there", x.hush(2, 0), 0);
        due("21 no more bits", x.hush(2, 1), 0);
        x = boxes("l19;x11;l29;l39");
        due("21 three", x.hush(59, 0), 3);
        due("21 their bits", x.hush(59, 1), 13);
        x.lids(8);
        due("21 two more", x.hush(59, 1), 5);
        x.tell(59, 0, SHUT);
        due("21 one is shut by then", x.hush(59, 1), 4);
        // lids on 0 and 1 would do, too, and 3 is less than 4
        x = boxes("e29;e29;t19");
        x.tell(0, 2, TURNED);
        x.tell(1, 2, SHUT);
        due("21 fewest ahead of least bits", x.hush(5, 1), 4);
        x = boxes("l19;l19;l19;l19;l19;l19;l19;l19;l19");
        due("21 all nine", x.hush(59, 0), 9);
        due("21 their bits", x.hush(59, 1), 511);
        due("21 hush(60, 0)", x.hush(60, 0), BAD);
        due("21 hush(-1, 0)", x.hush(-1, 0), BAD);
        due("21 hush(0, 2)", x.hush(0, 2), BAD);
        due("21 hush(0, -1)", x.hush(0, -1), BAD);
    }

    private static void shelfRow(JackBoxes x, int loud, int many, int... row) {
        due("22 how many", x.shelf(row.length, loud, NONE), many);
        for (int i = 0; i < row.length; i++) {
            due("22 the " + i + "-th", x.shelf(row.length, loud, i), row[i]);
        }
    }

    private static void shelf() {
        JackBoxes x = boxes("t19;x19;e19");
        x.tell(0, 0, TURNED);
        shelfRow(x, 0, 1, 0, 1, 2);
        shelfRow(x, 1, 2, 0, 2, 1);
        shelfRow(x, 0, 1, 0, 1);
        shelfRow(x, 1, 2, 1, 0);
        x.swap(2, 1);
        shelfRow(x, 0, 1, 0, 1);
        due("22 the row stays", x.place(1), 2);
        due("22 and what is open by it", x.step(1, OPENS), 4);
        x.back();
        x.tell(18, 0, TURNED);
        shelfRow(x, 1, 2, 0, 2, 1);
        x.back();
        x.tell(19, 0, TURNED);
        shelfRow(x, 1, 1, 0, 1, 2);
        x.back();
        x.tell(20, 0, TURNED);
        due("22 what opens late in another plan", x.hush(59, 0), 1);
        shelfRow(x, 1, 0, 0, 1, 2);
        shelfRow(x, 0, 0, 0);
        due("22 shelf(0, 0, -1)", x.shelf(0, 0, NONE), BAD);
        due("22 shelf(4, 0, -1)", x.shelf(4, 0, NONE), BAD);
        due("22 shelf(3, 2, -1)", x.shelf(3, 2, NONE), BAD);
        due("22 shelf(3, -1, -1)", x.shelf(3, -1, NONE), BAD);
        due("22 shelf(3, 0, 3)", x.shelf(3, 0, 3), BAD);
        due("22 shelf(3, 0, -2)", x.shelf(3, 0, -2), BAD);
        due("22 seven", boxes(NINE).shelf(7, 0, NONE), BAD);
        // the far ones must come together: 5 opens only next to 0
        x = boxes("t19;x11;x11;x11;x11;e19");
        x.tell(0, 0, TURNED);
        shelfRow(x, 1, 2, 0, 5, 1, 2, 3, 4);
        shelfRow(x, 0, 1, 0, 1, 2, 3, 4, 5);
        x.lids(32);
        shelfRow(x, 1, 1, 0, 1, 2, 3, 4, 5);
    }

    private static void heardAndForget() {
        JackBoxes x = new JackBoxes();
        due("24 forget nothing", x.forget(), 0);
        due("23 heard(-1, 0)", x.heard(-1, 0), BAD);
        due("23 heard(60, 0)", x.heard(60, 0), BAD);
        due("23 heard(0, -1)", x.heard(0, -1), BAD);
        due("23 heard(0, 10)", x.heard(0, 10), BAD);
        for (int k = 1; k <= 8; k++) {
            due("23 heard up to 8", x.heard(59, 9), k);
        }
        due("23 a ninth", x.heard(0, 0), FULL);
        due("23 BAD ahead of FULL", x.heard(60, 0), BAD);
        due("23 count", x.count(3), 8);
        due("24 forget", x.forget(), 8);
        due("24 forgotten", x.count(3), 0);
    }

    private static void learn() {
        JackBoxes x = boxes("t11");
        x.tell(3, 0, TURNED);
        due("25 nothing heard: all", x.learn(0, NONE), 37);
        due("25 the first", x.learn(0, 0), 1);
        due("25 the tenth", x.learn(0, 9), 11);
        due("25 the last", x.learn(0, 36), 40);
        x.heard(3, 1);
        due("25 t1, l4", x.learn(0, NONE), 2);
        due("25 t1", x.learn(0, 0), 1);
        due("25 l4", x.learn(0, 1), 24);
        due("25 no more", x.learn(0, 2), NONE);
        x.heard(3, 2);
        due("25 both cannot be", x.learn(0, NONE), 0);
        due("25 none", x.learn(0, 0), NONE);
        due("25 learn(1, 0)", x.learn(1, 0), BAD);
        due("25 learn(-1, 0)", x.learn(-1, 0), BAD);
        due("25 learn(0, 37)", x.learn(0, 37), BAD);
        due("25 learn(0, -2)", x.learn(0, -2), BAD);
        // opened and shut in step 0, it opens again in step 1 if its spring lets it
        x = boxes("x11;x12");
        x.tell(0, 0, SHUT);
        x.tell(0, 1, SHUT);
        x.heard(0, 1);
        x.heard(1, 1);
        due("25 a spring of 1", x.learn(0, NONE), 0);
        due("25 a spring of 2", x.learn(1, NONE), 1);
        due("25 l1", x.learn(1, 0), 21);
        due("25 the law stays", x.box(1, 0), 4);
        // in the last step, by what all the others do
        x = boxes("l19;x11");
        x.heard(59, 1);
        due("25 nothing but l needs no turn, and l9 is over", x.learn(1, NONE), 0);
        x.tell(59, 1, TURNED);
        due("25 t1 in step 59", x.learn(1, 0), 1);
        x = boxes("l19;x11");
        x.heard(1, 1);
        due("25 e by 9, l2, w1", x.learn(1, NONE), 11);
        due("25 l2", x.learn(1, 9), 22);
        due("25 w1", x.learn(1, 10), 31);
    }

    private static void empty() {
        JackBoxes x = boxes("l19;l19;x11");
        due("26 nothing heard", x.empty(), 7);
        x.heard(0, 2);
        due("26 x itself alone", x.empty(), 4);
        x.forget();
        x.heard(0, 1);
        due("26 one of two", x.empty(), 3);
        x.heard(0, 0);
        due("26 none", x.empty(), 0);
        due("26 no boxes", new JackBoxes().empty(), 0);
        due("26 the laws stay", x.step(0, OPENS), 3);
    }

    private static void turn() {
        JackBoxes x = boxes("x11;t19");
        due("27 itself tells most", x.turn(1, 0), 1);
        due("27 itself, the first", x.turn(0, 0), 0);
        x = boxes("t19;x11");
        x.heard(0, 0);
        due("27 heard without the turn", x.turn(1, 0), 1);
        x.heard(0, 1);
        due("27 no law is left", x.turn(1, 0), 0);
        // t1 and l1 are left; shut in step 4, l1 opens in step 5, and t1 does if it is turned
        x = boxes("t12;x11");
        x.tell(0, 0, TURNED);
        x.tell(4, 0, SHUT);
        x.heard(0, 1);
        due("27 its own turn would hide what it is", x.turn(0, 5), 1);
        x = boxes("l19;l19;l19;l19;l19;l19;l19;l19;t19");
        due("27 nine at once", x.turn(8, 0), 8);
        x = boxes("x11;x11;x11");
        due("27 by t1 alone it opens in step 59", x.turn(2, 59), 2);
        x.lids(4);
        due("27 of like ones the least", x.turn(2, 3), 0);
        due("27 turn(3, 0)", x.turn(3, 0), BAD);
        due("27 turn(-1, 0)", x.turn(-1, 0), BAD);
        due("27 turn(0, 60)", x.turn(0, 60), BAD);
        due("27 turn(0, -1)", x.turn(0, -1), BAD);
    }

    private static void fraction(JackBoxes x, int c, int box, int step, long above, long below) {
        String call = "28 looks(" + c + ", " + box + ", " + step;
        due(call + ", 0)", x.looks(c, box, step, 0), above);
        due(call + ", 1)", x.looks(c, box, step, 1), below);
    }

    private static void looks() {
        JackBoxes x = boxes("l19;t19;l99");
        fraction(x, 8, 0, 0, 1, 2);
        fraction(x, 8, 0, 1, 3, 4);
        fraction(x, 12, 0, 0, 1, 4);
        fraction(x, 1, 0, 0, 15, 16);
        fraction(x, 15, 0, 0, 1, 16);
        fraction(x, 0, 0, 9, 1, 1);
        fraction(x, 16, 0, 9, 0, 1);
        fraction(x, 5, 2, 7, 0, 1);
        fraction(x, 5, 2, 9, 49516901511L, 1099511627776L);
        fraction(x, 5, 1, 3, 0, 1);
        x.tell(0, 0, LOOKED);
        x.tell(0, 1, TURNED);
        fraction(x, 0, 0, 0, 1, 1);
        fraction(x, 5, 1, 3, 1, 1);
        x.tell(1, 0, SHUT);
        fraction(x, 8, 0, 1, 0, 1);
        fraction(x, 8, 0, 2, 1, 2);
        due("28 told looks stay", x.first(0), 1);
        long bad = Long.MIN_VALUE + 2;
        due("28 looks(-1, 0, 0, 0)", x.looks(-1, 0, 0, 0), bad);
        due("28 looks(17, 0, 0, 0)", x.looks(17, 0, 0, 0), bad);
        due("28 looks(0, 3, 0, 0)", x.looks(0, 3, 0, 0), bad);
        due("28 looks(0, -1, 0, 0)", x.looks(0, -1, 0, 0), bad);
        due("28 looks(0, 0, 10, 0)", x.looks(0, 0, 10, 0), bad);
        due("28 looks(0, 0, -1, 0)", x.looks(0, 0, -1, 0), bad);
        due("28 looks(0, 0, 0, 2)", x.looks(0, 0, 0, 2), bad);
        due("28 looks(0, 0, 0, -1)", x.looks(0, 0, 0, -1), bad);
    }

    private static void night() {
        JackBoxes x = boxes("t39");
        due("29 two turns", x.night(5, 1, 0), 0);
        due("29 three turns", x.night(5, 2, 0), 1);
        due("29 up", x.night(5, 2, 1), 1);
        x.tell(2, 0, SHUT);
        due("29 shut in step 2, opens in 5", x.night(5, 5, 0), 2);
        due("29 shut", x.night(5, 2, 1), 0);
        due("29 turns are not told", x.count(6), 0);
        // by SEED 3 the upper bits are 50515, 7107, 10365, 41080, 53390, so three boxes' lots are 1, 0, 0, 1, 2
        x = boxes("t19;t19;t19");
        due("29 lot 1", x.night(3, 0, 1), 2);
        due("29 lot 0", x.night(3, 1, 1), 3);
        due("29 lots again", x.night(3, 3, 0), 2);
        due("29 lot 2", x.night(3, 4, 1), 7);
        due("29 all three", x.night(3, 4, 0), 3);
        due("29 a SEED below 0", x.night(-1, 1, 1), 6);
        x.tell(0, 0, TURNED);
        due("29 told turns, too", x.night(3, 0, 1), 3);
        due("29 no boxes", new JackBoxes().night(3, 59, 0), 0);
        due("29 no boxes up", new JackBoxes().night(3, 59, 1), 0);
        due("29 night(0, 60, 0)", x.night(0, 60, 0), BAD);
        due("29 night(0, -1, 0)", x.night(0, -1, 0), BAD);
        due("29 night(0, 0, 2)", x.night(0, 0, 2), BAD);
        due("29 night(0, 0, -1)", x.night(0, 0, -1), BAD);
    }

    private static void sheetAndLose() {
        JackBoxes x = new JackBoxes();
        due("30 sixty items", x.sheet(3, 2, 60), 60);
        due("30 none", x.sheet(0, 0, 0), 0);
        due("30 sheet(-1, 0, 1)", x.sheet(-1, 0, 1), BAD);
        due("30 sheet(4, 0, 1)", x.sheet(4, 0, 1), BAD);
        due("30 sheet(0, -1, 1)", x.sheet(0, -1, 1), BAD);
        due("30 sheet(0, 3, 1)", x.sheet(0, 3, 1), BAD);
        due("30 sheet(0, 0, 61)", x.sheet(0, 0, 61), BAD);
        due("30 BAD is no finding", x.count(8), 0);
        due("30 BAD ahead of SIZE", x.sheet(4, 0, -1), BAD);
        due("30 below 0", x.sheet(3, 1, -1), SIZE);
        due("30 its finding", x.count(8), 5);
        due("30 the sheet stays", x.get(3, 2, 59), 0);
        x.lay(3, 2, 0, 7);
        x.sheet(3, 2, 60);
        due("30 a new row", x.get(3, 2, 0), 0);
        due("31 lose", x.lose(3), 60);
        due("31 lose an empty one", x.lose(0), 0);
        due("31 it is lost", x.lose(0), NULL);
        due("31 its finding", x.count(8), 1);
        due("31 lose(-1)", x.lose(-1), BAD);
        due("31 lose(4)", x.lose(4), BAD);
    }

    private static void layAndGet() {
        JackBoxes x = new JackBoxes();
        int[] items = {127, 128, 255, 256, -129, 32768, 65535, 65536, Integer.MIN_VALUE, Integer.MAX_VALUE};
        for (int form = 0; form < 3; form++) {
            x.sheet(form, form, 10);
            for (int i = 0; i < 10; i++) {
                due("32 lay", x.lay(form, form, i, items[i]), 1);
                int want = form == 0 ? (byte) items[i] : form == 1 ? (short) items[i] : items[i];
                due("33 get form " + form, x.get(form, form, i), want);
            }
        }
        due("32 lay(-1, 0, 0, 0)", x.lay(-1, 0, 0, 0), BAD);
        due("32 lay(4, 0, 0, 0)", x.lay(4, 0, 0, 0), BAD);
        due("32 lay(0, -1, 0, 0)", x.lay(0, -1, 0, 0), BAD);
        due("32 BAD ahead of NULL", x.lay(3, 3, 0, 0), BAD);
        due("33 get(4, 0, 0)", x.get(4, 0, 0), LEAST);
        due("33 get(0, 3, 0)", x.get(0, 3, 0), LEAST);
        due("33 BAD is no finding", x.count(8), 0);
        due("32 NULL ahead of INDEX", x.lay(3, 0, -1, 0), NULL);
        due("32 CAST ahead of INDEX", x.lay(0, 1, -1, 0), CAST);
        due("32 CAST", x.count(8), 3);
        due("32 index -1", x.lay(0, 0, -1, 0), INDEX);
        due("32 index 10", x.lay(0, 0, 10, 0), INDEX);
        due("32 INDEX", x.count(8), 2);
        due("33 NULL", x.get(3, 0, -1), LEAST);
        due("33 NULL tells", x.count(8), 1);
        due("33 CAST", x.get(0, 2, 99), LEAST);
        due("33 CAST tells", x.count(8), 3);
        due("33 INDEX", x.get(1, 1, 10), LEAST);
        due("33 INDEX tells", x.count(8), 2);
        due("33 index -1", x.get(2, 2, -1), LEAST);
        due("33 a well call leaves the finding", x.get(0, 0, 0), 127);
        due("33 the latest finding", x.count(8), 2);
    }

    private static void dueItems(String what, JackBoxes x, int s, int form, int... want) {
        for (int i = 0; i < want.length; i++) {
            due("34 " + what + ", item " + i, x.get(s, form, i), want[i]);
        }
    }

    private static void copy() {
        JackBoxes x = new JackBoxes();
        layAll(x, 0, 1, 1, 2, 3, 4, 5);
        layAll(x, 1, 1, 0, 0, 0);
        layAll(x, 2, 2, 0, 0, 0);
        due("34 copy", x.copy(0, 2, 1, 0, 3), 1);
        dueItems("to another", x, 1, 1, 3, 4, 5);
        due("34 forward in itself", x.copy(0, 0, 0, 1, 4), 1);
        dueItems("as they were", x, 0, 1, 1, 1, 2, 3, 4);
        due("34 backward in itself", x.copy(0, 2, 0, 0, 3), 1);
        dueItems("as they were", x, 0, 1, 2, 3, 4, 3, 4);
        due("34 none at the end", x.copy(0, 5, 1, 3, 0), 1);
        due("34 copy(4, ..)", x.copy(4, 0, 0, 0, 0), BAD);
        due("34 copy(.., 4, ..)", x.copy(0, 0, 4, 0, 0), BAD);
        due("34 copy(-1, ..)", x.copy(-1, 0, 3, 0, 0), BAD);
        due("34 from a LOST one", x.copy(3, -1, 0, 0, 0), NULL);
        due("34 to a LOST one", x.copy(0, -1, 3, 0, 0), NULL);
        due("34 STORE ahead of INDEX", x.copy(0, -1, 2, 0, 1), STORE);
        due("34 its finding", x.count(8), 4);
        due("34 STORE of none", x.copy(0, 0, 2, 0, 0), STORE);
        due("34 i below 0", x.copy(0, -1, 1, 0, 1), INDEX);
        due("34 j below 0", x.copy(0, 0, 1, -1, 1), INDEX);
        due("34 n below 0", x.copy(0, 1, 1, 1, -1), INDEX);
        due("34 not so many in s", x.copy(0, 4, 1, 0, 2), INDEX);
        due("34 not so many in t", x.copy(0, 0, 1, 2, 2), INDEX);
        due("34 i behind the end", x.copy(0, 6, 1, 0, 0), INDEX);
        due("34 sums that wrap", x.copy(0, 1, 1, 1, Integer.MAX_VALUE), INDEX);
        due("34 greatest i", x.copy(0, Integer.MAX_VALUE, 1, 0, 1), INDEX);
        due("34 its finding", x.count(8), 2);
        dueItems("refusals change nothing", x, 1, 1, 3, 4, 5);
    }

    private static void write() {
        JackBoxes x = boxes("l29;x11;x11;x11;x11;x11;x11;l39;l49");
        x.sheet(0, 2, 5);
        due("35 write", x.write(0, 0), 5);
        dueItems("who opens", x, 0, 2, 0, 1, 128, 256, 0);
        due("35 write", x.write(1, 0), 5);
        dueItems("who is up", x, 0, 2, 0, 1, 129, 385, 385);
        x.sheet(1, 0, 5);
        due("35 to bytes", x.write(1, 1), 5);
        dueItems("the lowest bits", x, 1, 0, 0, 1, -127, -127, -127);
        JackBoxes y = boxes("l19");
        y.sheet(0, 1, 1);
        due("35 step 0 alone", y.write(0, 0), 1);
        due("35 to item 0", y.get(0, 1, 0), 1);
        x.sheet(2, 1, 60);
        due("35 all steps", x.write(1, 2), 60);
        due("35 behind the last", x.get(2, 1, 59), 385);
        x.sheet(2, 1, 0);
        due("35 no items", x.write(1, 2), 0);
        due("35 a LOST one", x.write(0, 3), NULL);
        due("35 BAD ahead of NULL", x.write(2, 3), BAD);
        due("35 write(-1, 0)", x.write(-1, 0), BAD);
        due("35 write(0, 4)", x.write(0, 4), BAD);
        due("35 write(0, -1)", x.write(0, -1), BAD);
    }

    private static void count() {
        JackBoxes x = boxes("l12;x13;x14");
        x.tell(0, 0, SHUT);
        x.tell(3, 0, LOOKED);
        x.heard(7, 7);
        x.lids(6);
        x.lose(0);
        int[] want = {3, 11, 2, 1, 6, 9, 2, 2, 1};
        for (int what = 0; what < want.length; what++) {
            due("36 count(" + what + ")", x.count(what), want[what]);
        }
        x = boxes("x12;t19");
        x.tell(59, 1, TURNED);
        due("36 one opens in step 59", x.count(6), 1);
        due("36 box 0 has law x", x.count(7), 1);
        due("36 count(-1)", x.count(-1), BAD);
        due("36 count(9)", x.count(9), BAD);
    }

    private static long fold(long... all) {
        long h = 17;
        for (long one : all) {
            h = 31 * h + one;
        }
        return h;
    }

    /** The digest of what an object says of itself, call by call as the document lists them. */
    private static long foldOfCalls(JackBoxes x) {
        java.util.List<Long> all = new java.util.ArrayList<>();
        java.util.function.LongConsumer put = all::add;
        for (int what = 0; what <= 7; what++) {
            put.accept(x.count(what));
        }
        put.accept(x.fault());
        for (int place = 0; place <= 8; place++) {
            put.accept(x.place(place));
        }
        for (int it = 0; it < x.count(0); it++) {
            long[] ofBox = {x.box(it, 0), x.box(it, 1), x.box(it, 2), x.first(it), x.spring(9, it),
                x.together(it, 0), x.hears(it, 2), x.learn(it, NONE), x.learn(it, 0),
                x.looks(5, it, 4, 0), x.looks(5, it, 4, 1)};
            java.util.Arrays.stream(ofBox).forEach(put);
        }
        for (int step : new int[] {0, 1, 2, 9, 59}) {
            put.accept(x.step(step, OPENS));
            put.accept(x.step(step, UP));
        }
        long[] rest = {x.quiet(), x.loudest(0), x.loudest(1), x.news(0, 0, 1), x.hush(9, 0), x.hush(9, 1),
            x.shelf(3, 0, NONE), x.shelf(3, 0, 0), x.shelf(3, 1, NONE), x.shelf(3, 1, 0), x.empty(), x.turn(0, 4),
            x.night(7, 20, 0), x.night(7, 20, 1)};
        java.util.Arrays.stream(rest).forEach(put);
        return fold(all.stream().mapToLong(one -> one).toArray());
    }

    private static void digestOfRuns() {
        JackBoxes shutInStep3 = boxes("l11;l11");
        shutInStep3.tell(3, 0, SHUT);
        due("37 hears(it, 2), news(0, 0, 1)", shutInStep3.digest(), foldOfCalls(shutInStep3));
        JackBoxes hidden = boxes("t12;x11");
        hidden.tell(0, 0, TURNED);
        hidden.tell(3, 0, SHUT);
        hidden.heard(0, 1);
        due("37 turn(0, 4)", hidden.digest(), foldOfCalls(hidden));
        String[] texts = {"t19;e19;l39;x11", "t12;x11;e19;t29", "l23;t15;l99", "l19;l29;e29;w39;t99;l97;t22;e99;x88", NINE};
        for (String text : texts) {
            JackBoxes x = boxes(text);
            due("37 " + text, x.digest(), foldOfCalls(x));
            for (int k = 0; k < 20; k++) {
                x.tell(k * 7 % 13, k * 5 % 4, k % 3);
                x.swap(k % 9, k * 4 % 9);
                if (k % 5 == 4) {
                    x.heard(k / 2, 1);
                }
                due("37 " + text + ", " + k, x.digest(), foldOfCalls(x));
            }
        }
    }

    private static void digest() {
        due("37 a new one", new JackBoxes().digest(), fold(
            0, 0, 0, 0, 0, 0, 0, 0, NONE, 0, 1, 2, 3, 4, 5, 6, 7, 8,
            0, 0, 0, 0, 0, 0, 0, 0, 0, 0, 0, NONE, NONE, BAD, 0, 0, BAD, BAD, BAD, BAD, 0, BAD, 0, 0));
        JackBoxes x = boxes("l29");
        x.swap(0, 8);
        x.heard(1, 1);
        // looked at by 5 sixteenths in five steps, l2 stays shut by 5^5 + 5 5^4 11 + 6 5^3 11^2 + 5^2 11^3
        long shut = 3125 + 5 * 625 * 11 + 6 * 125 * 121 + 25 * 1331;
        due("37 one box", x.digest(), fold(
            1, 3, 0, 1, 0, 9, 1, 0, NONE, 8, 1, 2, 3, 4, 5, 6, 7, 0,
            2, 2, 9, 1, 8, BAD, 1, 1, 22, 1048576 - shut, 1048576,
            0, 0, 1, 1, 0, 1, 0, 1, 0, 1, 2, 1, 1, BAD, 1, 1, BAD, BAD, BAD, BAD, 0, 0, 1, 1));
    }
}
