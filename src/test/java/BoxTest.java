/** Promises 1 to 21 and 44 to 46: the box, its texts, foods, ticks, draws, images. */
public final class BoxTest {
    private static final int NONE = -1, UNKNOWN = -1000000001, OUTSIDE = -1000000002, NOT = -1000000003, FULL = -1000000004;
    private static final int NO_FAULT = -99;
    /** A box in which nothing flows; clauses that a test needs are put behind it. */
    private static final String STILL = "wall 0; seal 0; mix 0; cold 0;";
    private static int wrong = 0;
    private static int asked = 0;

    public static void main(String[] args) {
        newObject();
        feeding();
        boxTexts();
        boxFaults();
        faultOrder();
        dayTexts();
        dayFaults();
        whatBoxLeaves();
        troubles();
        freshness();
        currentAndCover();
        puttingRefused();
        foods();
        runBounds();
        flows();
        foodFlows();
        roomWarmth();
        machine();
        machinePower();
        lamp();
        doorByDay();
        wet();
        thawing();
        countsAndHeats();
        drawnDays();
        drawnFromMidDay();
        images();
        System.out.println("BoxTest: " + asked + " answers, " + wrong + " wrong");
        if (wrong != 0) System.exit(1);
    }

    private static void due(String what, long want, long got) {
        asked++;
        if (got != want) {
            wrong++;
            System.out.println(what + " answered " + got + ", due is " + want);
        }
    }

    private static void tell(ColdBox x, String text) {
        for (int i = 0; i < text.length(); i += 8) {
            int n = Math.min(8, text.length() - i);
            long bytes = 0;
            for (int k = 0; k < n; k++) bytes = bytes << 8 | text.charAt(i + k);
            x.feed(n, bytes);
        }
    }

    private static int box(ColdBox x, String text) {
        tell(x, text);
        return x.box();
    }

    private static int day(ColdBox x, String text) {
        tell(x, text);
        return x.day();
    }

    private static ColdBox still(String more) {
        ColdBox x = new ColdBox();
        box(x, STILL + more);
        return x;
    }

    private static void newObject() {
        ColdBox x = new ColdBox();
        int[] untold = {900, 4, 3, 40, 60, 10, 70, 30, 1, 10, 4, 200, NONE, NONE, 0};
        for (int what = 0; what < untold.length; what++) due("new told " + what, untold[what], x.told(what));
        for (int s = 0; s < 3; s++) due("new warmth " + s, 500, x.warmth(s));
        due("new coil", -1000, x.warmth(3));
        for (int what = 0; what < 8; what++) due("new count " + what, 0, x.count(what));
        due("new reading", 500, x.count(8));
        due("new machine", 0, x.count(9));
        due("new foods", 0, x.count(10));
        due("new text", 0, x.count(11));
        due("new heat", -10000, x.heat(0));
        for (int what = 1; what < 6; what++) due("new heat " + what, 0, x.heat(what));
        due("new opening", NONE, x.opening(0, 0));
        due("new fault", NONE, x.fault());
        due("new seed", 0, x.seed(0));
        due("new covered", 0, x.cover(false));
        due("new current", 1, x.current(true));
        due("new troubles", 0, x.trouble(0));
        due("new image", NOT, x.goBack(0));
    }

    private static void feeding() {
        ColdBox x = new ColdBox();
        due("feed 0", OUTSIDE, x.feed(0, 0));
        due("feed 9", OUTSIDE, x.feed(9, 0));
        due("feed -1", OUTSIDE, x.feed(-1, 0));
        due("feed least", OUTSIDE, x.feed(Integer.MIN_VALUE, 0));
        due("feed high bytes are left", 1, x.feed(1, -1L << 8 | ' '));
        due("feed order", 5, x.feed(4, ((long) 'o' << 24) | ('n' << 16) | ('5' << 8) | '1'));
        due("feed end", 6, x.feed(1, ';'));
        due("fed box", 1, x.box());
        due("fed on", 51, x.told(6));
        due("fed text is empty", 0, x.count(11));
        for (int i = 1; i <= 37; i++) due("feed 8", 8 * i, x.feed(8, 0x2020202020202020L));
        due("feed over 300", FULL, x.feed(5, 0x2020202020L));
        due("full changes nothing", 296, x.count(11));
        due("feed to 300", 300, x.feed(4, 0x20202020L));
        due("feed at 300", FULL, x.feed(1, ' '));
        due("feed bounds ahead of full", OUTSIDE, x.feed(9, ' '));
        due("300 blanks", 0, x.box());
        due("after 300", 1, x.feed(1, ' '));
    }

    private static void boxTexts() {
        ColdBox x = new ColdBox();
        due("all clauses", 13, box(x, "stove 0 24 200;room400;lamp 99;use 99;bulb 2;off 199;on 200;food 99;cold 99;mix 99;"
            + "seal 99;wall 99;power 999;"));
        int[] most = {999, 99, 99, 99, 99, 99, 200, 199, 2, 99, 99, 400, 0, 24, 200};
        for (int what = 0; what < 15; what++) due("most " + what, most[what], x.told(what));
        due("told below", OUTSIDE, x.told(-1));
        due("told above", OUTSIDE, x.told(15));
        due("least clauses", 13, box(x, "power1;wall0;seal0;mix0;cold0;food1;on1;off0;bulb0;use1;lamp0;room0;stove23 24 0;"));
        int[] least = {1, 0, 0, 0, 0, 1, 1, 0, 0, 1, 0, 0, 23, 24, 0};
        for (int what = 0; what < 15; what++) due("least " + what, least[what], x.told(what));
        due("blanks anywhere", 2, box(x, "   wall   007   ;  stove 1  2   3 ;   "));
        due("figures with noughts", 7, x.told(1));
        due("untold again", 900, x.told(0));
        due("stove N", 3, x.told(14));
        due("empty", 0, box(x, ""));
        due("empty is as untold", 4, x.told(1));
        due("empty has no stove", NONE, x.told(12));
        due("no fault", NONE, x.fault());
    }

    private static void oneBoxFault(String text, int number, int place) {
        ColdBox x = new ColdBox();
        due("box \"" + text + "\"", -10 - number, box(x, text));
        due("fault of \"" + text + "\"", place, x.fault());
        due("text of \"" + text + "\" is empty", 0, x.count(11));
    }

    private static void boxFaults() {
        oneBoxFault("wall", 1, 4);
        oneBoxFault("wall ", 1, 5);
        oneBoxFault("wall 4", 1, 6);
        oneBoxFault("wall 4 ", 1, 7);
        oneBoxFault(";", 1, 0);
        oneBoxFault("wall 4;;", 1, 7);
        oneBoxFault("walls 4;", 1, 0);
        oneBoxFault("wallz 4;", 1, 0);
        oneBoxFault("ball 4;", 1, 0);
        oneBoxFault("wal l 4;", 1, 0);
        oneBoxFault("  Wall 4;", 1, 2);
        oneBoxFault("waLl 4;", 1, 0);
        oneBoxFault("open 4 4;", 1, 0);
        oneBoxFault("4 wall;", 1, 0);
        oneBoxFault("4000 wall;", 1, 0);
        oneBoxFault("wall x4;", 1, 5);
        oneBoxFault("wall -4;", 1, 5);
        oneBoxFault("wall 4 4;", 1, 7);
        oneBoxFault("wall 4 4000;", 1, 7);
        oneBoxFault("wall 4 seal 3;", 1, 7);
        oneBoxFault("wall 4x;", 1, 6);
        oneBoxFault("wall\t4;", 1, 4);
        oneBoxFault("wall 4;" + (char) 200, 1, 7);
        oneBoxFault("stove 1 2;", 1, 9);
        oneBoxFault("wall 100;", 2, 5);
        oneBoxFault("wall 0004;", 2, 5);
        oneBoxFault("wall 1000", 2, 5);
        oneBoxFault("power 0;", 2, 6);
        oneBoxFault("food 0;", 2, 5);
        oneBoxFault("use 0;", 2, 4);
        oneBoxFault("seal 100;", 2, 5);
        oneBoxFault("mix 100;", 2, 4);
        oneBoxFault("cold 100;", 2, 5);
        oneBoxFault("food 100;", 2, 5);
        oneBoxFault("on 201;", 2, 3);
        oneBoxFault("off 201;", 2, 4);
        oneBoxFault("bulb 3;", 2, 5);
        oneBoxFault("use 100;", 2, 4);
        oneBoxFault("lamp 100;", 2, 5);
        oneBoxFault("room 401;", 2, 5);
        oneBoxFault("stove 25 26 3;", 2, 6);
        oneBoxFault("stove 24 25 3;", 2, 9);
        oneBoxFault("stove 5 5 3;", 2, 8);
        oneBoxFault("stove 5 4 3;", 2, 8);
        oneBoxFault("stove 5 6 201;", 2, 10);
        oneBoxFault("wall 4; wall 4;", 3, 8);
        oneBoxFault("wall 4; wall", 3, 8);
        oneBoxFault("on 30;", 4, 6);
        oneBoxFault("off 70;  ", 4, 9);
        oneBoxFault("on 5; off 5;", 4, 12);
        oneBoxFault("on 0; off 0;", 4, 12);
    }

    private static void faultOrder() {
        oneBoxFault("on 30; wall 100;", 2, 12);
        oneBoxFault("on 30; wall 4; wall 4;", 3, 15);
        oneBoxFault("on 30; wall", 1, 11);
        ColdBox x = new ColdBox();
        box(x, "wall 9;");
        x.run(5);
        due("a fault", -11, box(x, "seal 9; x"));
        due("with a fault THE BOX stays", 9, x.told(1));
        due("nothing of it is taken", 3, x.told(2));
        due("with a fault it is not FRESH", 5, x.count(0));
        due("then an empty one", 0, x.box());
        due("no fault now", NONE, x.fault());
        due("FRESH now", 0, x.count(0));
    }

    private static void dayTexts() {
        ColdBox x = new ColdBox();
        due("openings", 3, day(x, "open 0 1;open1 20; open 287 20 ;"));
        int[][] want = {{0, 1}, {1, 20}, {287, 20}};
        for (int i = 0; i < 3; i++) {
            due("T " + i, want[i][0], x.opening(i, 0));
            due("N " + i, want[i][1], x.opening(i, 1));
        }
        due("not so many", NONE, x.opening(3, 0));
        due("below 0", NONE, x.opening(-1, 1));
        due("above 11", NONE, x.opening(Integer.MAX_VALUE, 1));
        due("what", OUTSIDE, x.opening(0, 2));
        due("what ahead of i", OUTSIDE, x.opening(-1, -1));
        due("a fault", -12, day(x, "open 5 0;"));
        due("with a fault THE DAY stays", 287, x.opening(2, 0));
        due("twelve", 12, day(x, "open 1 1;open 2 1;open 3 1;open 4 1;open 5 1;open 6 1;open 7 1;open 8 1;open 9 1;"
            + "open 10 1;open 11 1;open 12 1;"));
        due("the last", 12, x.opening(11, 0));
        x.run(7);
        due("none", 0, day(x, "   "));
        due("none now", NONE, x.opening(0, 0));
        day(x, "open 0 3;");
        day(x, "");
        x.fresh();
        x.run(7);
        due("never open now", 0, x.heat(3));
        due("THE DAY makes nothing FRESH", 7, x.count(0));
    }

    private static void oneDayFault(String text, int number, int place) {
        ColdBox x = new ColdBox();
        due("day \"" + text + "\"", -10 - number, day(x, text));
        due("fault of \"" + text + "\"", place, x.fault());
        due("text of \"" + text + "\" is empty", 0, x.count(11));
    }

    private static void dayFaults() {
        oneDayFault("open", 1, 4);
        oneDayFault("open 5;", 1, 6);
        oneDayFault("open 5 5", 1, 8);
        oneDayFault("wall 5;", 1, 0);
        oneDayFault("opens 5 5;", 1, 0);
        oneDayFault("open 288 1;", 2, 5);
        oneDayFault("open 0000 1;", 2, 5);
        oneDayFault("open 5 0;", 2, 7);
        oneDayFault("open 5 21;", 2, 7);
        oneDayFault("open 5 1; open 5 1;", 2, 15);
        oneDayFault("open 5 1; open 4 1;", 2, 15);
        oneDayFault("open 287 1; open 287 1;", 2, 17);
        oneDayFault("open 1 1;open 2 1;open 3 1;open 4 1;open 5 1;open 6 1;open 7 1;open 8 1;open 9 1;"
            + "open 10 1;open 11 1;open 12 1;open 11", 3, 111);
        oneDayFault("open 1 1;open 2 1;open 3 1;open 4 1;open 5 1;open 6 1;open 7 1;open 8 1;open 9 1;"
            + "open 10 1;open 11 1;open 12 1;opens", 1, 111);
    }

    private static void whatBoxLeaves() {
        ColdBox x = new ColdBox();
        day(x, "open 3 4;");
        x.trouble(2 + 32);
        x.current(false);
        x.cover(true);
        x.seen(0, 1, 1);
        x.prior(1, 7);
        x.bother(2, 8);
        x.mending(3, 9);
        x.price(11);
        x.seed(12);
        x.put(0, 1, 1, 1, 1);
        x.run(3);
        x.keep(1);
        due("box", 1, box(x, "wall 5;"));
        due("TROUBLES stay", 34, x.trouble(34));
        due("FURRED, FRESH", 600, x.count(5));
        due("THE DAY stays", 3, x.opening(0, 0));
        due("current stays", 0, x.current(true));
        due("COVERED does not", 0, x.cover(false));
        due("SEEN stays", 1, x.forget());
        due("PRIOR stays", 7, x.prior(1, 100));
        due("BOTHER stays", 8, x.bother(2, 0));
        due("MENDING stays", 9, x.mending(3, 50));
        due("PRICE stays", 11, x.price(30));
        due("SEED stays", 12, x.seed(0));
        due("FOODS do not", 0, x.count(10));
        due("TICK does not", 0, x.count(0));
        due("IMAGES stay", 1, x.goBack(1));
        due("image's TICK", 3, x.count(0));
        due("image's food", 1, x.food(0, 2));
        due("an image keeps no BOX", 5, x.told(1));
    }

    private static void troubles() {
        ColdBox x = new ColdBox();
        due("trouble 128", UNKNOWN, x.trouble(128));
        due("trouble -1", UNKNOWN, x.trouble(-1));
        due("trouble 127", 0, x.trouble(127));
        due("FURRED comes", 600, x.count(5));
        due("trouble 2", 127, x.trouble(2));
        due("thaw", 600, x.thaw());
        due("trouble 2 again", 2, x.trouble(2));
        due("FURRED was there", 0, x.count(5));
        x.trouble(0);
        due("FUR without it", 0, x.count(5));
        x.trouble(2);
        due("FURRED comes again", 600, x.count(5));
        x = new ColdBox();
        box(x, "seal 99;");
        x.run(7);
        due("much fur", 693, x.count(5));
        x.trouble(2);
        due("FUR of more stays", 693, x.count(5));
    }

    private static void freshness() {
        ColdBox x = new ColdBox();
        due("fresh at first", 0, x.fresh());
        x.trouble(127);
        x.put(1, 3000, 50, 0, 1);
        x.cover(true);
        x.seed(5);
        x.run(30);
        x.current(false);
        x.thaw();
        due("fresh", 30, x.fresh());
        for (int s = 0; s < 3; s++) due("fresh air", 500, x.warmth(s));
        due("fresh coil", -1000, x.warmth(3));
        for (int what = 0; what < 12; what++) {
            due("fresh count " + what, what == 5 ? 600 : what == 8 ? 500 : 0, x.count(what));
        }
        due("fresh heat", -10000, x.heat(0));
        for (int what = 1; what < 6; what++) due("fresh heat " + what, 0, x.heat(what));
        due("TROUBLES stay", 127, x.trouble(0));
        due("current stays", 0, x.current(true));
        due("COVERED goes", 0, x.cover(false));
        due("SEED stays", 5, x.seed(0));
        due("without FURRED", 0, x.fresh());
        due("FUR then", 0, x.count(5));
    }

    private static void currentAndCover() {
        ColdBox x = still("room 0; on 50;");
        due("current off", 1, x.current(false));
        due("current off again", 0, x.current(false));
        due("no current, off", 0, x.run(5));
        due("current on", 0, x.current(true));
        due("on", 5, x.run(5));
        due("machine", 1, x.count(9));
        x.current(false);
        due("the machine waits for the TICK", 1, x.count(9));
        x.trouble(16);
        due("STUCK without current", 0, x.run(2));
        due("machine off", 0, x.count(9));
        due("cover", 0, x.cover(true));
        due("cover again", 1, x.cover(true));
        due("uncover", 1, x.cover(false));
    }

    private static void puttingRefused() {
        ColdBox x = new ColdBox();
        due("shelf 3", UNKNOWN, x.put(3, 0, 1, 0, 0));
        due("shelf -1, and all else", UNKNOWN, x.put(-1, 9001, 0, 9001, -3001));
        due("w above", OUTSIDE, x.put(0, 9001, 1, 0, 0));
        due("w below", OUTSIDE, x.put(0, -3001, 1, 0, 0));
        due("cap 0", OUTSIDE, x.put(0, 0, 0, 0, 0));
        due("cap 201", OUTSIDE, x.put(0, 0, 201, 0, 0));
        due("low below", OUTSIDE, x.put(0, 0, 1, -3001, 0));
        due("low above", OUTSIDE, x.put(0, 0, 1, 9001, 9001));
        due("high above", OUTSIDE, x.put(0, 0, 1, 0, 9001));
        due("high below", OUTSIDE, x.put(0, 0, 1, -3001, -3001));
        due("high below low", OUTSIDE, x.put(0, 0, 1, 5, 4));
        due("nothing PUT", 0, x.heat(2));
        due("least", 0, x.put(0, -3000, 1, -3000, -3000));
        due("most", 1, x.put(2, 9000, 200, 9000, 9000));
        due("least WARMTH", -3000, x.food(0, 1));
        due("least CAP", 1, x.food(0, 2));
        due("most WARMTH", 9000, x.food(1, 1));
        due("most CAP", 200, x.food(1, 2));
        due("PUT", 9000 * 200 - 3000, x.heat(2));
        for (int f = 2; f < 8; f++) due("put " + f, f, x.put(1, 0, 1, 0, 0));
        due("full", FULL, x.put(1, 0, 1, 0, 0));
        due("OUTSIDE ahead of FULL", OUTSIDE, x.put(1, 0, 0, 0, 0));
        due("UNKNOWN ahead of FULL", UNKNOWN, x.put(7, 0, 1, 0, 0));
        due("take 5", 0, x.take(5));
        due("take 2", 0, x.take(2));
        due("least free", 2, x.put(1, 0, 1, 0, 0));
        due("next free", 5, x.put(1, 0, 1, 0, 0));
    }

    private static void foods() {
        ColdBox x = still("food 1;");
        due("put", 0, x.put(2, 777, 10, 700, 800));
        int[] want = {2, 777, 10, 700, 800, 1};
        for (int what = 0; what < 6; what++) due("food 0, " + what, want[what], x.food(0, what));
        due("what 6", OUTSIDE, x.food(0, 6));
        due("what -1", OUTSIDE, x.food(0, -1));
        due("no food", UNKNOWN, x.food(1, 0));
        due("no food, no what", UNKNOWN, x.food(8, 9));
        due("food -1", UNKNOWN, x.food(-1, 0));
        due("lay", 2, x.lay(0, 0));
        due("lies", 0, x.food(0, 0));
        due("lay there again", 0, x.lay(0, 0));
        due("lay on 3", UNKNOWN, x.lay(0, 3));
        due("lay on -1", UNKNOWN, x.lay(0, -1));
        due("lay none", UNKNOWN, x.lay(7, 0));
        due("at the edge", 1, x.put(0, 700, 200, 700, 700));
        due("within", 1, x.food(1, 5));
        due("below", 2, x.put(0, 699, 200, 700, 800));
        due("not within", 0, x.food(2, 5));
        due("above", 3, x.put(0, 801, 200, 700, 800));
        due("not within", 0, x.food(3, 5));
        due("take", 777, x.take(0));
        due("taken", 7770, x.heat(5));
        due("take again", UNKNOWN, x.take(0));
        due("take 8", UNKNOWN, x.take(8));
        due("take -1", UNKNOWN, x.take(-1));
        due("there are", 3, x.count(10));
        due("all heat", -10000 + (700 + 699 + 801) * 200, x.heat(0));
        x = still("");
        x.put(0, -999, 7, 0, 0);
        due("a cold food", -999, x.take(0));
        due("TAKEN below 0", -999 * 7, x.heat(5));
        due("PUT below 0", -999 * 7, x.heat(2));
    }

    private static void runBounds() {
        ColdBox x = new ColdBox();
        due("run 0", OUTSIDE, x.run(0));
        due("run -1", OUTSIDE, x.run(-1));
        due("run 2881", OUTSIDE, x.run(2881));
        due("no TICK", 0, x.count(0));
        due("run 1", 0, x.run(1));
        x.run(2880);
        due("TICKS", 2881, x.count(0));
        due("warmth -1", UNKNOWN, x.warmth(-1));
        due("warmth 4", UNKNOWN, x.warmth(4));
    }

    private static void flows() {
        ColdBox x = new ColdBox();
        box(x, "wall 10; seal 5; mix 0; cold 0;");
        x.run(1);
        due("came in", 3 * 225, x.heat(1));
        due("air", (10000 + 225) / 20, x.warmth(0));
        x.fresh();
        x.trouble(1);
        x.run(1);
        due("AJAR came in", 3 * (10 + 32) * 15, x.heat(1));
        due("AJAR wet", 32, x.count(4));
        x = new ColdBox();
        box(x, "wall 7; seal 0; mix 0; cold 0; room 0;");
        x.run(1);
        due("flows back", 3 * -35, x.heat(1));
        x = new ColdBox();
        box(x, "wall 0; seal 0; mix 0; cold 7;");
        x.run(1);
        due("cold: air", (10000 - 105) / 20, x.warmth(0));
        due("cold: coil", -39895 / 40, x.warmth(3));
        due("cold: others", 500, x.warmth(1));
        x.fresh();
        x.trouble(2);
        x.run(1);
        due("cold through fur: air", (10000 - 65) / 20, x.warmth(0));
        due("all heat stays", -10000, x.heat(0));
        x = still("lamp 99;");
        x.trouble(32);
        x.run(3);
        due("air 0 is warmer", 574, x.warmth(0));
        x = new ColdBox();
        box(x, "wall 0; seal 0; mix 50; cold 0; lamp 99; on 200;");
        x.trouble(32);
        x.run(1);
        due("before mixing", 524, x.warmth(0));
        x.run(1);
        due("mix: air 0", (10000 + 495 - 12 + 495) / 20, x.warmth(0));
        due("mix: air 1", (10000 + 12) / 20, x.warmth(1));
        x.run(100);
        due("mix: heat", 102 * 495 - 10000, x.heat(0));
        x = new ColdBox();
        box(x, "wall 0; seal 0; mix 99; cold 0; food 99; on 200;");
        x.put(1, 9000, 200, 0, 9000);
        x.run(1);
        due("air 1 by the FOOD", (10000 + 8415) / 20, x.warmth(1));
        x.run(1);
        due("mix: to air 0", (10000 + 920 * 99 / 100 - 500 * 99 / 100) / 20, x.warmth(0));
        due("mix: to air 2", (10000 + 920 * 99 / 100 - 500 * 99 / 100) / 20, x.warmth(2));
        x = new ColdBox();
        box(x, "wall 0; seal 0; mix 50; cold 0; food 50; on 200;");
        x.put(1, 8500, 200, 0, 9000);
        x.run(1);
        due("air 1 by 4000", 700, x.warmth(1));
        x.run(1);
        due("mix 100 to air 0, whole", 505, x.warmth(0));
        x = new ColdBox();
        box(x, "wall 0; seal 0; mix 0; cold 99; on 200;");
        x.run(1);
        due("much cold: air", (10000 - 1485) / 20, x.warmth(0));
        due("much cold: coil", (-40000 + 1485) / 40, x.warmth(3));
        x = new ColdBox();
        box(x, "wall 0; seal 0; mix 50; cold 0; lamp 99; on 200;");
        x.trouble(32);
        x.run(102);
        due("mix: downwards", 1, x.warmth(1) > x.warmth(2) && x.warmth(0) > x.warmth(1) ? 1 : 0);
    }

    private static void foodFlows() {
        ColdBox x = still("food 10;");
        x.put(0, 2500, 10, 0, 9000);
        x.put(2, -500, 5, -3000, 0);
        x.run(1);
        due("warm food", (25000 - 200) / 10, x.food(0, 1));
        due("air 0", (10000 + 200) / 20, x.warmth(0));
        due("cold food", (-2500 + 100) / 5, x.food(1, 1));
        due("air 2", (10000 - 100) / 20, x.warmth(2));
        due("air 1", 500, x.warmth(1));
        x.lay(0, 1);
        x.run(1);
        due("lying on 1", (10000 + (2480 - 500) * 10 / 100) / 20, x.warmth(1));
        due("heat", -10000 + 25000 - 2500, x.heat(0));
    }

    private static void roomWarmth() {
        String quiet = "seal 0; mix 0; cold 0; wall 10; on 200;";
        ColdBox x = new ColdBox();
        box(x, quiet + "stove 1 2 50;");
        x.run(12);
        long before = x.heat(1);
        int[] warm = {x.warmth(0), x.warmth(1), x.warmth(2)};
        x.run(1);
        long due = 0;
        for (int w : warm) due += (2500 - w) / 10;
        due("hour 1 has the stove", due, x.heat(1) - before);
        x.run(11);
        before = x.heat(1);
        due = 0;
        for (int s = 0; s < 3; s++) due += (2000 - x.warmth(s)) / 10;
        x.run(1);
        due("hour 2 has not", due, x.heat(1) - before);
        x = new ColdBox();
        box(x, "wall 99; seal 1; mix 0; cold 0; stove 0 24 1; room 1;");
        x.trouble(64);
        x.run(1);
        due("PLACED, all of it", 3 * (10 + 10 + 800 - 500), x.heat(1));
        x = new ColdBox();
        box(x, quiet + "stove 0 24 200; room 400;");
        x.trouble(64);
        x.run(1);
        due("stove and PLACED", 3 * (4000 + 2000 + 800 - 500) / 10, x.heat(1));
        x.run(287);
        before = x.heat(1);
        due = 0;
        for (int s = 0; s < 3; s++) due += (6800 - x.warmth(s)) / 10;
        x.run(1);
        due("the next DAY", due, x.heat(1) - before);
    }

    private static void machine() {
        ColdBox x = still("room 0; on 50; off 49;");
        due("at 'on'", 1, x.run(1));
        due("STARTS", 1, x.count(2));
        due("still on", 3, x.run(3));
        due("STARTS once", 1, x.count(2));
        due("TICKS on", 4, x.count(3));
        due("USED", 40, x.count(1));
        due("box", 6, box(x, STILL + "on 51; off 50;"));
        due("FRESH is off", 0, x.run(1));
        x = still("on 51; off 49;");
        due("between, off", 0, x.run(1));
        x.trouble(16);
        due("STUCK", 5, x.run(5));
        due("STUCK starts", 1, x.count(2));
        x.trouble(0);
        due("between, as it was", 5, x.run(5));
        x = still("on 51; off 50; bulb 0; lamp 99;");
        x.trouble(16);
        x.run(1);
        x.trouble(0);
        due("at 'off'", 0, x.run(1));
        x.trouble(32);
        due("warms", 0, x.run(1));
        due("READING", 500, x.count(8));
        due("by the bulb's SHELF", 1, x.run(1));
        due("READING", 524, x.count(8));
        x = still("on 200; bulb 0; lamp 99;");
        x.trouble(32);
        x.run(29);
        x.cover(true);
        due("READING ahead", 1193, x.count(8));
        x.run(1);
        due("READING near", 1193 + (1217 - 1193) / 8, x.count(8));
        x = still("on 200; bulb 0; lamp 99;");
        x.trouble(32);
        x.cover(true);
        int reading = 500;
        for (int t = 0; t < 40; t++) {
            reading += (x.warmth(0) - reading) / 8;
            x.run(1);
            due("COVERED, TICK " + t, reading, x.count(8));
        }
        x = still("on 51; off 50; bulb 0; lamp 80;");
        x.trouble(32);
        x.cover(true);
        x.run(1);
        due("COVERED, first", 500, x.count(8));
        x.run(1);
        due("COVERED, an eighth", 502, x.count(8));
        x.run(1);
        due("COVERED, further", 502 + (540 - 502) / 8, x.count(8));
        x.cover(false);
        x.run(1);
        due("not COVERED", 560, x.count(8));
    }

    private static int movedAtOnce(String box, int troubles) {
        ColdBox x = still("on 50;" + box);
        x.trouble(troubles);
        x.run(1);
        due("MOVED and THE COIL", (-40000 - x.heat(4)) / 40, x.warmth(3));
        return (int) x.heat(4);
    }

    private static void machinePower() {
        due("power", 900 - 125, movedAtOnce("room 0;", 0));
        due("FLUFFED", 450 - 125, movedAtOnce("room 0;", 4));
        due("SHORT", 495 - 125, movedAtOnce("room 0;", 8));
        due("FLUFFED, SHORT", 450 - 202 - 125, movedAtOnce("room 0;", 12));
        due("each cut", 999 - 499 - 225 - 125, movedAtOnce("room 0; power 999;", 12));
        due("by THE ROOM", 900 - 375, movedAtOnce("", 0));
        due("0 at least", 0, movedAtOnce("power 1;", 0));
        due("PLACED", 900 - 475, movedAtOnce("", 64));
        due("no other TROUBLE", 900 - 125, movedAtOnce("room 0;", 1 + 2 + 16 + 32));
        due("other ones, no lamp", 0, usedOfOne(1 + 2 + 4 + 8 + 64));
        due("LIT, lamp", 5, usedOfOne(32));
        due("STUCK, on", 10, usedOfOne(16));
    }

    private static int usedOfOne(int troubles) {
        ColdBox x = still("lamp 5; use 10;");
        x.trouble(troubles);
        x.run(1);
        return x.count(1);
    }

    private static void lamp() {
        ColdBox x = still("lamp 9; on 200;");
        x.run(2);
        due("no light", 0, x.heat(3));
        x.trouble(32);
        x.run(2);
        due("LIT", 90, x.heat(3));
        due("LIT is USED", 18, x.count(1));
        due("LIT warms air 0", (10000 + 90) / 20, x.warmth(0));
        x.current(false);
        x.run(2);
        due("no current, no light", 90, x.heat(3));
        due("no current, not USED", 18, x.count(1));
    }

    private static void doorByDay() {
        ColdBox x = still("lamp 1; on 200;");
        day(x, "open 2 3; open 3 1; open 286 20;");
        int[] want = {0, 0, 1, 2, 3, 3};
        for (int t = 0; t < 6; t++) {
            x.run(1);
            due("lit behind TICK " + t, want[t], x.count(1));
        }
        due("door lets WET in", 60, x.count(4));
        due("door lets heat in", 1, x.heat(1) > 0 ? 1 : 0);
        x.run(288 - 6);
        due("to the DAY's end", 5, x.count(1));
        x.run(2);
        due("not on the next", 5, x.count(1));
        x.run(1);
        due("each DAY", 6, x.count(1));
        x = still("");
        day(x, "open 0 1;");
        x.run(1);
        due("60 more", 3 * 60 * 15, x.heat(1));
        x.run(1);
        due("shut", 3 * 60 * 15, x.heat(1));
    }

    private static void wet() {
        ColdBox x = new ColdBox();
        box(x, "wall 0; mix 0; cold 0; seal 99;");
        x.trouble(1);
        day(x, "open 0 1;");
        x.run(1);
        due("AJAR, open", 99 * 4 + 12 + 20, x.count(4));
        due("freezes", 428, x.count(5));
        x.run(23);
        due("nearly full", 428 + 23 * 408, x.count(5));
        x.run(1);
        due("FUR at most", 9999, x.count(5));
        due("the rest PASSES", 428 + 24 * 408 - 9999, x.count(7));
        due("WET", x.count(4), x.count(5) + x.count(7));
        x = still("on 200;");
        x.thaw();
        x.trouble(2);
        x.run(1);
        due("drains by warmth", 600 - 51, x.count(5));
        due("DRAINED", 51, x.count(6));
        x.run(10);
        due("drains on", 600 - 561, x.count(5));
        x.run(1);
        due("what there is", 0, x.count(5));
        due("DRAINED all", 600, x.count(6));
        x = new ColdBox();
        box(x, "wall 0; mix 0; cold 0;");
        x.thaw();
        x.run(2);
        due("warm, WET passes", 6, x.count(7));
        due("no FUR", 0, x.count(5));
        // THE COIL's WARMTH of -1000 comes to 0 and above within the TICK.
        x = new ColdBox();
        box(x, "wall 0; mix 0; seal 3; cold 99;");
        x.trouble(2);
        x.put(0, 9000, 200, 0, 1);
        int before = 0;
        for (int t = 0; t < 150 && x.warmth(3) < 0; t++) {
            before = x.count(5);
            x.run(1);
        }
        due("WARMTH now: drains in the same TICK", before - Math.min(before, x.warmth(3) / 20 + 1), x.count(5));
    }

    private static void thawing() {
        ColdBox x = new ColdBox();
        due("no fur", 0, x.thaw());
        due("warm at once", 1000, x.warmth(0));
        due("coil too", 1000, x.warmth(3));
        due("came in", 3 * 10000 + 80000, x.heat(1));
        due("no time", 0, x.count(0));
        due("again", 0, x.thaw());
        due("nothing more", 3 * 10000 + 80000, x.heat(1));
        x.trouble(2);
        due("fur drains", 600, x.thaw());
        due("DRAINED", 600, x.count(6));
        x = still("lamp 1; on 200;");
        x.thaw();
        x.trouble(32);
        x.run(1);
        due("a little above 1000", 0, x.thaw());
        due("its HEAT stays", 3 * 20000 + 40000 + 5, x.heat(0));
        x = still("lamp 99;");
        x.trouble(32);
        x.put(1, -50, 3, -100, 100);
        x.run(40);
        int warm = x.warmth(0);
        x.thaw();
        due("what is warmer stays", warm, x.warmth(0));
        due("foods stay cold", 1, x.food(0, 1) < 1000 ? 1 : 0);
    }

    private static void countsAndHeats() {
        ColdBox x = new ColdBox();
        due("count -1", OUTSIDE, x.count(-1));
        due("count 12", OUTSIDE, x.count(12));
        due("heat -1", OUTSIDE, x.heat(-1));
        due("heat 6", OUTSIDE, x.heat(6));
        box(x, "seal 20; wall 12; stove 3 9 80; lamp 30; use 7;");
        day(x, "open 10 5; open 100 20; open 280 20;");
        tell(x, "abc");
        due("bytes", 3, x.count(11));
        for (int set = 0; set < 128; set += 9) {
            x.trouble(set);
            int f = x.put(set % 3, 100 * set - 3000, 1 + set, -3000, 9000);
            x.run(100 + set);
            if (f > 2) x.take(f - 2);
            if (set % 4 == 0) x.thaw();
            due("heat of all", x.heat(0), -10000 + x.heat(1) + x.heat(2) + x.heat(3) - x.heat(4) - x.heat(5));
            due("TEXT stays", 3, x.count(11));
        }
        long lampTicks = x.heat(3) / 150;
        due("USED", x.count(3) * 7L + lampTicks * 30, x.count(1));
        x.trouble(0);
        x.fresh();
        x.run(2000);
        due("wet", x.count(4), x.count(5) + x.count(6) + x.count(7));
    }

    private static long seedAfter(long seed) {
        return (seed * 1103515245L + 12345L) % 2147483648L;
    }

    private static void drawnDays() {
        ColdBox x = still("lamp 3; on 200;");
        day(x, "open 5 20;");
        due("n 0", OUTSIDE, x.drawn(0, 5));
        due("n 11", OUTSIDE, x.drawn(11, 5));
        due("m -1", OUTSIDE, x.drawn(1, -1));
        due("m 21", OUTSIDE, x.drawn(1, 21));
        due("seed stays", 0, x.seed(77));
        due("seed -1", OUTSIDE, x.seed(-1));
        due("none drawn", 0, x.drawn(3, 0));
        due("TICKS", 864, x.count(0));
        due("no DRAW", 77, x.seed(2147483647));
        long seed = 2147483647L;
        int used = 0;
        for (int d = 0; d < 10; d++) {
            java.util.Set<Long> ticks = new java.util.HashSet<>();
            for (int i = 0; i < 20; i++) {
                seed = seedAfter(seed);
                ticks.add(seed / 65536 % 288);
            }
            used += 3 * ticks.size();
        }
        due("drawn", used, x.drawn(10, 20));
        due("seed then", seed, x.seed(0));
        x.run(288);
        due("THE DAY again", used + 60, x.count(1));
        seed = 0;
        for (int call = 0; call < 30; call++) {
            used = 0;
            for (int d = 0; d < 1 + call % 3; d++) {
                java.util.Set<Long> ticks = new java.util.HashSet<>();
                for (int i = 0; i < call % 21; i++) {
                    seed = seedAfter(seed);
                    ticks.add(seed / 65536 % 288);
                }
                used += 3 * ticks.size();
            }
            due("drawn, USED in these DAYS", used, x.drawn(1 + call % 3, call % 21));
        }
    }

    private static void drawnFromMidDay() {
        ColdBox x = still("lamp 1; on 200;");
        x.run(100);
        x.seed(5);
        long seed = 5;
        int used = 0;
        for (int d = 0; d < 3; d++) {
            java.util.Set<Long> ticks = new java.util.HashSet<>();
            for (int i = 0; i < 20; i++) {
                seed = seedAfter(seed);
                long t = seed / 65536 % 288;
                if (d == 0 ? t >= 100 : d == 2 ? t < 100 : true) ticks.add(t);
            }
            used += ticks.size();
        }
        due("from TICK 100", used, x.drawn(2, 20));
        due("three times drawn", seed, x.seed(0));
    }

    private static void images() {
        ColdBox x = new ColdBox();
        due("keep 2", UNKNOWN, x.keep(2));
        due("keep -1", UNKNOWN, x.keep(-1));
        due("goBack 2", UNKNOWN, x.goBack(2));
        due("goBack -1", UNKNOWN, x.goBack(-1));
        due("goBack 1", NOT, x.goBack(1));
        x.put(2, 4000, 20, -5, 5);
        x.trouble(35);
        x.cover(true);
        x.seed(99);
        x.run(50);
        due("keep", 1, x.keep(1));
        due("the other", NOT, x.goBack(0));
        long[] was = all(x);
        x.trouble(64);
        x.cover(false);
        x.current(false);
        x.seed(1);
        x.take(0);
        x.put(0, 1, 2, 3, 4);
        x.put(1, 1, 2, 3, 4);
        x.run(70);
        x.thaw();
        tell(x, "wall");
        due("goBack", 1, x.goBack(1));
        long[] is = all(x);
        for (int i = 0; i < was.length; i++) due("image, " + i, was[i], is[i]);
        due("current is kept", 1, x.current(true));
        due("COVERED is kept", 1, x.cover(true));
        due("TROUBLES are kept", 35, x.trouble(35));
        due("SEED is kept", 99, x.seed(99));
        due("THE TEXT is not", 4, x.count(11));
        x.run(10);
        long later = x.heat(0);
        x.goBack(1);
        x.run(10);
        due("goes on likewise", later, x.heat(0));
        x.keep(0);
        x.goBack(1);
        due("two images", 50, x.count(0));
        x.goBack(0);
        due("two images", 60, x.count(0));
    }

    private static long[] all(ColdBox x) {
        long[] is = new long[32];
        for (int what = 0; what < 11; what++) is[what] = x.count(what);
        for (int what = 0; what < 6; what++) is[11 + what] = x.heat(what);
        for (int s = 0; s < 4; s++) is[17 + s] = x.warmth(s);
        for (int what = 0; what < 6; what++) is[21 + what] = x.food(0, what);
        return is;
    }
}
