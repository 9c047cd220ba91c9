import java.util.function.ToLongFunction;

/**
 * Each sentence of the document that names a boundary case (too small, too large, empty, full, a wrap-around, a refused
 * call), in the document's order: Terms, the four parts, promises 1 to 46. A check's label begins with the place.
 */
public final class EdgeTest {
    private static final int NONE = -1, UNKNOWN = -1000000001, OUTSIDE = -1000000002, NOT = -1000000003, FULL = -1000000004;
    private static final int LOW = Integer.MIN_VALUE, HIGH = Integer.MAX_VALUE;
    /** A box in which nothing flows; THE COIL stays below 0, so all WET freezes. */
    private static final String STILL = "wall 0; seal 0; mix 0; cold 0;";
    private static final String TWELVE = "open 1 1;open 2 1;open 3 1;open 4 1;open 5 1;open 6 1;open 7 1;open 8 1;open 9 1;"
        + "open 10 1;open 11 1;open 12 1;";
    private static int wrong = 0;
    private static int asked = 0;

    public static void main(String[] args) {
        terms();
        texts();
        clauseBounds();
        faults();
        dayFaults();
        stoveHours();
        doorTimes();
        flows();
        machineEdges();
        coveredReading();
        powerEdges();
        wetEdges();
        troubleEdges();
        signEdges();
        weightEdges();
        classEdges();
        nextEdges();
        makesEdges();
        moneyEdges();
        bestEdges();
        paysEdges();
        iceEdges();
        lyingEdges();
        bulbEdges();
        withoutEdges();
        cheapEdges();
        storeEdges();
        drawEdges();
        imageEdges();
        promise1();
        promises2To7();
        promises8To15();
        promises16To21();
        promises22To31();
        promises32To38();
        promises39To46();
        System.out.println("EdgeTest: " + asked + " answers, " + wrong + " wrong");
        if (wrong != 0) System.exit(1);
    }

    /** Of a class that is wrong in much the first faults are enough. */
    private static void due(String what, long want, long got) {
        asked++;
        if (got == want) return;
        wrong++;
        System.out.println(what + " answered " + got + ", due is " + want);
        if (wrong >= 100) System.exit(1);
    }

    private static void tell(ColdBox x, String text) {
        for (int i = 0; i < text.length(); i += 8) {
            int n = Math.min(8, text.length() - i);
            long bytes = 0;
            for (int k = 0; k < n; k++) bytes = bytes << 8 | text.charAt(i + k);
            x.feed(n, bytes);
        }
    }

    private static int box(ColdBox x, String text) {
        tell(x, text);
        return x.box();
    }

    private static int day(ColdBox x, String text) {
        tell(x, text);
        return x.day();
    }

    private static ColdBox made(String box, String day) {
        ColdBox x = new ColdBox();
        if (box(x, box) < 0 || day(x, day) < 0) throw new IllegalStateException(box + day);
        return x;
    }

    private static ColdBox still(String more) {
        return made(STILL + more, "");
    }

    private static String padded(String text, int length) {
        StringBuilder all = new StringBuilder(text);
        while (all.length() < length) all.append(' ');
        return all.toString();
    }

    // ---- what is refused changes nothing

    /** An object in which all that can be told, seen, kept or set is something else than at first. */
    private static ColdBox rich() {
        ColdBox x = made("power 700; seal 6; use 7; lamp 9; stove 6 9 30; on 60;", "open 20 3; open 150 10; open 280 20;");
        box(x, "wall 5; q");
        x.put(1, 1500, 60, 300, 1400);
        x.put(0, 400, 30, 0, 350);
        x.put(2, 300, 20, 200, 900);
        x.take(1);
        x.trouble(33);
        x.cover(true);
        x.seed(77);
        x.run(100);
        x.seen(0, 200, 30);
        x.seen(5, 700, 90);
        x.prior(2, 300);
        x.bother(4, 50);
        x.mending(3, 70);
        x.price(44);
        x.cheap(2, 9, 11);
        x.keep(0);
        x.run(30);
        tell(x, "wall");
        return x;
    }

    private static void see(ColdBox x, StringBuilder all) {
        for (int what = 0; what < 12; what++) all.append(x.count(what)).append(' ');
        for (int what = 0; what < 6; what++) all.append(x.heat(what)).append(' ');
        for (int s = 0; s < 4; s++) all.append(x.warmth(s)).append(' ');
        for (int f = 0; f < 8; f++) {
            if (x.food(f, 0) < 0) continue;
            for (int what = 0; what < 6; what++) all.append(x.food(f, what)).append(' ');
        }
    }

    /** All that an object can tell; it is another behind it. */
    private static String all(ColdBox x) {
        StringBuilder all = new StringBuilder();
        see(x, all);
        for (int what = 0; what < 15; what++) all.append(x.told(what)).append(' ');
        for (int i = 0; i < 4; i++) all.append(x.opening(i, 0)).append(' ').append(x.opening(i, 1)).append(' ');
        all.append(x.fault()).append(" plans ").append(x.odds(1, 1)).append(' ').append(x.next(1)).append(' ').append(x.store(1, 1));
        all.append(" set ").append(x.current(true)).append(' ').append(x.cover(false)).append(' ').append(x.seed(0));
        all.append(' ').append(x.trouble(0)).append(' ').append(x.forget()).append(' ').append(x.price(30));
        for (int k = 0; k < 7; k++) {
            all.append(' ').append(x.prior(k, 100)).append(' ').append(x.bother(k, 0)).append(' ').append(x.mending(k, 50));
        }
        for (int i = 0; i < 2; i++) {
            all.append("\nimage ").append(x.goBack(i)).append(' ');
            see(x, all);
        }
        tell(x, " 7;");
        return all.append(x.box()).append(' ').append(x.told(1)).toString();
    }

    private static final String RICH = all(rich());

    private static void refused(String what, long want, ToLongFunction<ColdBox> call) {
        ColdBox x = rich();
        due(what, want, call.applyAsLong(x));
        boolean same = RICH.equals(all(x));
        due(what + ": what is refused changes nothing", 1, same ? 1 : 0);
    }

    private interface OfOne {
        long ask(ColdBox x, int v);
    }

    /** A number below its least, above its most, and the least and most that there are (not if one just above is taken). */
    private static void bounds(String what, long refusal, int least, int most, OfOne call) {
        int before = wrong;
        for (int v : new int[] {least - 1, most + 1, LOW, HIGH}) {
            if (v >= least && v <= most || wrong > before) continue;
            refused(what + " " + v, refusal, x -> call.ask(x, v));
        }
        for (int v : new int[] {least, most}) due(what + " " + v + " is taken", 1, call.ask(rich(), v) > UNKNOWN ? 1 : 0);
    }

    // ---- Terms

    private static void terms() {
        // "/ cuts towards 0", below 0, too.
        ColdBox x = made("wall 7; seal 0; mix 0; cold 0; room 0; on 200;", "");
        x.run(1);
        due("Terms, a FLOW back, whole", 3 * -35, x.heat(1));
        x.run(1);
        due("Terms, a FLOW below 0 is cut towards 0", 3 * (-35 - 34), x.heat(1));
        x = made("wall 0; seal 0; mix 0; cold 7; on 200;", "");
        x.run(1);
        due("Terms, WARMTH below 0 is cut towards 0", -997, x.warmth(3));
        x = still("");
        x.put(0, -1, 3, -1, -1);
        x.put(0, 1, 3, 1, 1);
        x.run(1);
        due("Terms, a FOOD's WARMTH below 0", (-3 + 10 * 501 / 100) / 3, x.food(0, 1));
        due("Terms, a FOOD's WARMTH", (3 + 10 * 499 / 100) / 3, x.food(1, 1));
        // "REFUSALS, of several the first in this order".
        refused("Terms, UNKNOWN ahead of OUTSIDE", UNKNOWN, y -> y.put(3, 9001, 0, 5, 4));
        refused("Terms, UNKNOWN SIGN ahead of OUTSIDE n", UNKNOWN, y -> y.sign(0, 0, 7));
        refused("Terms, UNKNOWN ahead of NOT", UNKNOWN, y -> y.saves(128, 3));
        refused("Terms, UNKNOWN part ahead of NOT", UNKNOWN, y -> y.saves(3, 132));
        refused("Terms, UNKNOWN FOOD ahead of OUTSIDE what", UNKNOWN, y -> y.food(1, 6));
        ColdBox seven = new ColdBox();
        for (int f = 0; f < 7; f++) seven.put(0, 0, 1, 0, 0);
        due("Terms, UNKNOWN FOOD ahead of NOT", UNKNOWN, seven.lying(7));
        seven.put(0, 0, 1, 0, 0);
        due("Terms, UNKNOWN ahead of FULL", UNKNOWN, seven.put(3, 0, 1, 0, 0));
        due("Terms, OUTSIDE ahead of FULL", OUTSIDE, seven.put(0, 0, 201, 0, 0));
        due("Terms, FULL then", FULL, seven.put(0, 0, 200, 0, 0));
        refused("Terms, UNKNOWN IMAGE ahead of NOT", UNKNOWN, y -> y.goBack(2));
        // "An object is used for at most 512 calls".
        x = new ColdBox();
        for (int i = 0; i < 511; i++) x.run(2880);
        due("Terms, the 512th call", 511 * 2880, x.count(0));
    }

    // ---- part 1: the two texts

    private static void texts() {
        ColdBox x = new ColdBox();
        due("part 1, empty: untold", 0, x.box());
        due("part 1, empty: no FAULT", NONE, x.fault());
        due("part 1, blanks alone", 0, box(x, padded("", 300)));
        due("part 1, blanks alone: no FAULT", NONE, x.fault());
        due("part 1, THE DAY, empty", 0, x.day());
        due("part 1, THE DAY, blanks alone", 0, day(x, " "));
        due("part 1, 300 bytes", 1, box(x, padded("wall 5", 299) + ";"));
        due("part 1, 300 bytes are read", 5, x.told(1));
        due("part 1, 300 bytes, a FAULT at the last", -11, box(x, padded("", 299) + ";"));
        due("part 1, its place", 299, x.fault());
        due("part 1, 300 bytes, the text's length", -14, box(x, padded("on 30;", 300)));
        due("part 1, its place", 300, x.fault());
        due("part 1, THE DAY, 300 bytes", 1, day(x, padded("open 287 20", 299) + ";"));
        due("part 1, THE DAY, no end at 300", -11, day(x, padded("open 287 20", 300)));
        due("part 1, its place", 300, x.fault());
        due("part 1, 'food' needs no blank", 13, box(x, "power1;wall2;seal3;mix4;cold5;food6;on8;off7;bulb0;use9;lamp10;room11;"
            + "stove0 1 2;"));
        int[] want = {1, 2, 3, 4, 5, 6, 8, 7, 0, 9, 10, 11, 0, 1, 2};
        for (int what = 0; what < 15; what++) due("part 1, told " + what, want[what], x.told(what));
        due("part 1, one to three figures", 3, box(x, "wall 00;seal 007;room 07;"));
        due("part 1, noughts ahead", 7, x.told(2));
        due("part 1, noughts ahead", 7, x.told(11));
    }

    private static void oneClause(String clause, int what, int least, int most, int untold) {
        ColdBox x = new ColdBox();
        due("part 1, untold " + clause, untold, x.told(what));
        String more = clause.equals("on") ? "off 0;" : clause.equals("off") ? "on 200;" : "";
        boolean leastOn = clause.equals("on");
        due("part 1, least " + clause, leastOn ? -14 : more.isEmpty() ? 1 : 2, box(x, clause + " " + least + ";" + more));
        due("part 1, least " + clause, leastOn ? untold : least, x.told(what));
        boolean mostOff = clause.equals("off");
        due("part 1, most " + clause, mostOff ? -14 : more.isEmpty() ? 1 : 2, box(x, clause + " " + most + ";" + more));
        due("part 1, most " + clause, mostOff ? least : most, x.told(what));
        int place = clause.length() + 1;
        if (least > 0) {
            due("part 1, too small " + clause, -12, box(x, clause + " " + (least - 1) + ";" + more));
            due("part 1, too small " + clause + ", its place", place, x.fault());
        }
        due("part 1, too large " + clause, -12, box(x, clause + " " + (most + 1) + ";" + more));
        due("part 1, too large " + clause + ", its place", place, x.fault());
        due("part 1, four figures " + clause, -12, box(x, clause + " 000" + Math.max(1, least) + ";" + more));
        due("part 1, four figures " + clause + ", its place", place, x.fault());
        due("part 1, below 0 " + clause, -11, box(x, clause + " -1;" + more));
        due("part 1, told twice " + clause, -13, box(x, clause + " 1 ;" + clause + " 1;"));
        due("part 1, told twice " + clause + ", its place", clause.length() + 4, x.fault());
        due("part 1, of FAULTS nothing is taken, " + clause, mostOff ? least : most, x.told(what));
    }

    private static void clauseBounds() {
        oneClause("power", 0, 1, 999, 900);
        oneClause("wall", 1, 0, 99, 4);
        oneClause("seal", 2, 0, 99, 3);
        oneClause("mix", 3, 0, 99, 40);
        oneClause("cold", 4, 0, 99, 60);
        oneClause("food", 5, 1, 99, 10);
        oneClause("on", 6, 0, 200, 70);
        oneClause("off", 7, 0, 200, 30);
        oneClause("bulb", 8, 0, 2, 1);
        oneClause("use", 9, 1, 99, 10);
        oneClause("lamp", 10, 0, 99, 4);
        oneClause("room", 11, 0, 400, 200);
        ColdBox x = new ColdBox();
        for (int what = 12; what < 15; what++) due("part 1, no stove", what < 14 ? NONE : 0, x.told(what));
        due("part 1, stove, least", 1, box(x, "stove 0 1 0;"));
        due("part 1, stove, most", 1, box(x, "stove 23 24 200;"));
        due("part 1, stove A", 23, x.told(12));
        due("part 1, stove B", 24, x.told(13));
        due("part 1, stove N", 200, x.told(14));
        due("part 1, stove is none again", 0, x.box());
        due("part 1, stove is none again", NONE, x.told(12));
        oneFault("stove 25 26 1;", 2, 6);
        oneFault("stove 24 25 1;", 2, 9);
        oneFault("stove 24 24 1;", 2, 9);
        oneFault("stove 0 0 1;", 2, 8);
        oneFault("stove 9 8 1;", 2, 8);
        oneFault("stove 9 25 1;", 2, 8);
        oneFault("stove 0 24 201;", 2, 11);
        oneFault("stove 0000 24 1;", 2, 6);
        oneFault("stove 0 0024 1;", 2, 8);
        oneFault("stove 0 24 0001;", 2, 11);
        oneFault("stove 0 24 1 1;", 1, 13);
        oneFault("stove 0 24;", 1, 10);
        oneFault("stove 0;", 1, 7);
        oneFault("stove;", 1, 5);
        oneFault("stove 1 2 3; stove 25", 3, 13);
    }

    private static void oneFault(String text, int number, int place) {
        ColdBox x = new ColdBox();
        due("part 1, box \"" + text + "\"", -10 - number, box(x, text));
        due("part 1, FAULT of \"" + text + "\"", place, x.fault());
        due("promise 3, THE TEXT is empty with a FAULT, too", 0, x.count(11));
    }

    private static void faults() {
        // 1: it cannot stand there.
        for (int b = 0; b < 256; b++) {
            if (b == ' ' || b == ';' || b >= '0' && b <= '9' || b >= 'a' && b <= 'z') continue;
            ColdBox x = new ColdBox();
            x.feed(1, b);
            due("part 1, byte " + b, -11, x.box());
            due("part 1, byte " + b + ", its place", 0, x.fault());
            tell(x, "wall 5");
            x.feed(1, b);
            x.feed(1, ';');
            due("part 1, byte " + b + " behind a NUMBER", -11, x.box());
            due("part 1, byte " + b + " behind a NUMBER, its place", 6, x.fault());
        }
        oneFault("w", 1, 0);
        oneFault("wal", 1, 0);
        oneFault("wallwall 1;", 1, 0);
        oneFault("wallz 1;", 1, 0);
        oneFault("awall 1;", 1, 0);
        oneFault("wa ll 1;", 1, 0);
        oneFault("wall 1 2;", 1, 7);
        oneFault("wall seal 1;", 1, 5);
        oneFault("wall wall 1;", 1, 5);
        oneFault(" 5;", 1, 1);
        oneFault("wall 5;5;", 1, 7);
        oneFault("wall 5 5;", 1, 7);
        oneFault("wall 5 5555;", 1, 7);
        oneFault("wall 5  ", 1, 8);
        oneFault("wall 5", 1, 6);
        oneFault("wall  ", 1, 6);
        oneFault("wall", 1, 4);
        oneFault("open 5 5;", 1, 0);
        // 2: at the NUMBER's first; what stands in or behind it does not count.
        oneFault("wall 100x;", 2, 5);
        oneFault("wall 99999999999999999999;", 2, 5);
        oneFault("wall  100", 2, 6);
        oneFault("wall0100;", 2, 4);
        oneFault("wall 1 00;", 1, 7);
        // 3: at its first letter, ahead of what is wrong in it.
        oneFault("wall 1;wall 100;", 3, 7);
        oneFault("wall 1;wall", 3, 7);
        oneFault("wall 1; walls 1;", 1, 8);
        // The first byte that has one, whichever it is.
        oneFault("wall 100; wall 1; x", 2, 5);
        oneFault("wall 1; wall 1; seal 100;", 3, 8);
        // 4: 'off' is not less than 'on', at the text's end, if there is none of these.
        oneFault("on 30;", 4, 6);
        oneFault("off 70;", 4, 7);
        oneFault("off 7;on 7;", 4, 11);
        oneFault("off 8;on 7;  ", 4, 13);
        oneFault("on 0;off 0;", 4, 11);
        oneFault("on 0; off 0; wall 5", 1, 19);
        ColdBox x = new ColdBox();
        due("part 1, 'off' just less", 2, box(x, "on 1;off 0;"));
        due("part 1, 'on' just more than untold 'off'", 1, box(x, "on 31;"));
        due("part 1, 'off' just less than untold 'on'", 1, box(x, "off 69;"));
    }

    private static void oneDayFault(String text, int number, int place) {
        ColdBox x = made("", "open 7 7;");
        due("part 1, day \"" + text + "\"", -10 - number, day(x, text));
        due("part 1, FAULT of \"" + text + "\"", place, x.fault());
        due("promise 4, THE TEXT is empty with a FAULT, too", 0, x.count(11));
        due("promise 4, THE DAY is as it was", 7, x.opening(0, 0));
        due("promise 4, THE DAY is as it was", NONE, x.opening(1, 0));
    }

    private static void dayFaults() {
        oneDayFault("open 288 1;", 2, 5);
        oneDayFault("open 0287 1;", 2, 5);
        oneDayFault("open 0 0;", 2, 7);
        oneDayFault("open 0 21;", 2, 7);
        oneDayFault("open 0 0020;", 2, 7);
        oneDayFault("open 0 1;open 0 1;", 2, 14);
        oneDayFault("open 9 1;open 8 1;", 2, 14);
        oneDayFault("open 287 1;open 288 1;", 2, 16);
        oneDayFault("open 287 1;open 287 1;", 2, 16);
        oneDayFault("open", 1, 4);
        oneDayFault("open;", 1, 4);
        oneDayFault("open 5", 1, 6);
        oneDayFault("open 5;", 1, 6);
        oneDayFault("open 5 5", 1, 8);
        oneDayFault("open 5 5 5;", 1, 9);
        oneDayFault("wall 5;", 1, 0);
        oneDayFault("off 70;", 1, 0);
        oneDayFault("op en 5 5;", 1, 0);
        oneDayFault("Open 5 5;", 1, 0);
        oneDayFault(TWELVE + "open 13 1;", 3, TWELVE.length());
        oneDayFault(TWELVE + "open 0 99;", 3, TWELVE.length());
        oneDayFault(TWELVE + "wall", 1, TWELVE.length());
        oneDayFault(TWELVE + "5", 1, TWELVE.length());
        ColdBox x = new ColdBox();
        due("part 1, 12 at most", 12, day(x, TWELVE + "  "));
        due("part 1, the least T, N", 1, day(x, "open 0 1;"));
        due("part 1, the most T, N", 1, day(x, "open 287 20;"));
        due("part 1, a T just above", 2, day(x, "open 286 20;open 287 20;"));
    }

    /** "if A is no more than its HOUR of the DAY, and that less than B". */
    private static void stoveHours() {
        int[][] hours = {{0, 24}, {0, 1}, {23, 24}, {5, 7}};
        for (int[] h : hours) {
            for (int t = 0; t < 288 * 2 + 13; t++) {
                ColdBox x = made("wall 1;seal 0;mix 0;cold 0;room 50;on 200;stove " + h[0] + " " + h[1] + " 200;", "");
                x.thaw();
                if (t > 0) x.run(t);
                long want = 0;
                int hour = t % 288 / 12;
                int room = hour >= h[0] && hour < h[1] ? 2500 : 500;
                for (int s = 0; s < 3; s++) want += (room - x.warmth(s)) / 100;
                long before = x.heat(1);
                x.run(1);
                due("part 1, the stove in TICK " + t, want, x.heat(1) - before);
            }
        }
    }

    /** "from TICK T of each DAY, N TICKS, to the DAY's end at most". */
    private static void doorTimes() {
        String[] days = {"open 0 1;", "open 0 20;", "open 287 1;", "open 287 20;", "open 270 20;", "open 268 20;",
            "open 10 3;open 11 1;", "open 10 2;open 12 2;", "open 10 20;open 20 20;"};
        for (String text : days) {
            boolean[] open = new boolean[288];
            for (String clause : text.split(";")) {
                String[] words = clause.split(" ");
                int from = Integer.parseInt(words[1]);
                for (int t = from; t < from + Integer.parseInt(words[2]) && t < 288; t++) open[t] = true;
            }
            for (int t = 0; t < 2 * 288 + 30; t++) {
                ColdBox x = made(STILL + "on 200;lamp 1;", text);
                if (t > 0) x.run(t);
                int before = x.count(1);
                int wet = x.count(4);
                x.run(1);
                due("1, " + text + " in TICK " + t, open[t % 288] ? 1 : 0, x.count(1) - before);
                due("part 2, WET by " + text + " in TICK " + t, open[t % 288] ? 20 : 0, x.count(4) - wet);
            }
        }
    }

    // ---- part 2: a TICK

    /** "Then all are done": what flows in the same TICK is reckoned by WARMTH as it is at its beginning. */
    private static void flows() {
        ColdBox x = made("wall 99;seal 99;mix 99;cold 99;food 99;room 400;on 200;", "open 0 1;");
        x.put(0, 9000, 200, 0, 0);
        x.put(2, -3000, 200, 0, 0);
        x.trouble(1 + 64);
        long in = (99 + 99 * 4 + 12 + 60) * (4800 - 500) / 100;
        x.run(1);
        long cold = 99 * 1500 / 100;
        due("part 2, the most that comes in", 3 * in, x.heat(1));
        due("part 2, AIR 0", (10000 + in - cold + 99 * 8500 / 100 + 20) / 20, x.warmth(0));
        due("part 2, AIR 1", (10000 + in) / 20, x.warmth(1));
        due("part 2, AIR 2", (10000 + in - 99 * 3500 / 100) / 20, x.warmth(2));
        due("part 2, THE COIL", (-40000 + cold) / 40, x.warmth(3));
        // "that times 1000 / (1000 and FUR)": FUR of 0, 600, 9999.
        for (int fur : new int[] {0, 600, 9999}) {
            x = ofFur(fur);
            x.keep(0);
            box(x, "wall 0;seal 0;mix 0;cold 99;on 200;");
            x.goBack(0);
            due("part 2, FUR", fur, x.count(5));
            x.run(1);
            cold = 1485 * 1000 / (1000 + fur);
            due("part 2, AIR 0 through FUR of " + fur, (10000 - cold) / 20, x.warmth(0));
            due("part 2, THE COIL through FUR of " + fur, (-40000 + cold) / 40, x.warmth(3));
        }
    }

    /** An object as FRESH but for FUR and what is COUNTED: WET freezes, and THE ROOM is as warm as AIR. */
    private static ColdBox ofFur(int fur) {
        ColdBox x = made("wall 0;seal 99;mix 0;cold 0;room 50;on 200;", "");
        x.trouble(1);
        if (fur >= 408) x.run(fur / 408);
        if (fur == 9999) x.run(1);
        x.trouble(0);
        int left = fur - x.count(5);
        x.keep(0);
        box(x, "wall 0;seal " + left % 99 + ";mix 0;cold 0;room 50;on 200;");
        x.goBack(0);
        if (left % 99 > 0) x.run(1);
        x.keep(0);
        box(x, "wall 0;seal 99;mix 0;cold 0;room 50;on 200;");
        x.goBack(0);
        if (left >= 99) x.run(left / 99);
        return x;
    }

    private static void machineEdges() {
        // "THE READING is 'on' times 10 or more": by a lamp that warms AIR 0 by 1 a TICK, from 500 on.
        ColdBox x = still("on 51;off 40;bulb 0;lamp 4;");
        x.trouble(32);
        due("part 2, READING of 500 to 509, 'on' 51", 0, x.run(10));
        due("part 2, READING", 509, x.count(8));
        due("part 2, not on", 0, x.count(9));
        due("part 2, READING of 510", 1, x.run(1));
        due("part 2, READING", 510, x.count(8));
        due("part 2, on", 1, x.count(9));
        due("part 2, it STARTS", 1, x.count(2));
        due("part 2, on, it STARTS not again", 20, x.run(20));
        due("part 2, STARTS", 1, x.count(2));
        due("part 2, 'on' itself", 1, still("on 50;").run(1));
        due("part 2, 'on' of 0 tenths is met by all", 1, still("on 1;off 0;").run(1));
        // "'off' times 10 or less".
        for (int lit = 0; lit < 2; lit++) {
            x = still("on 200;off 50;bulb 0;lamp 4;");
            x.trouble(16 + 32 * lit);
            x.run(1);
            x.trouble(0);
            due("part 2, READING of " + (500 + lit) + ", 'off' 50", lit, x.run(1));
            due("part 2, READING", 500 + lit, x.count(8));
        }
        x = still("on 200;off 51;bulb 0;");
        x.trouble(16);
        due("part 2, STUCK: on in all TICKS, though it is cold", 288, x.run(288));
        due("part 2, STUCK: STARTS", 1, x.count(2));
        x.trouble(0);
        due("part 2, not STUCK: off at once", 0, x.run(5));
        // "off, .. or there is none": without current, STUCK or warm; between 'on' and 'off' it stays off then.
        x = still("on 51;off 49;");
        x.trouble(16);
        x.run(1);
        x.current(false);
        due("part 2, no current, STUCK", 0, x.run(3));
        due("part 2, no current, off", 0, x.count(9));
        x.trouble(0);
        x.current(true);
        due("part 2, else as it was: off", 0, x.run(3));
        x.trouble(16);
        due("part 2, STUCK again", 1, x.run(1));
        due("part 2, it STARTS again", 2, x.count(2));
        x.trouble(0);
        due("part 2, else as it was: on", 3, x.run(3));
        x = still("on 50;");
        x.current(false);
        due("part 2, no current, warm", 0, x.run(2));
        due("part 2, THE READING is read all the same", 500, x.count(8));
    }

    /** "if COVERED, the former READING and (that WARMTH less it) / 8": less than 8 up or down is nothing. */
    private static void coveredReading() {
        ColdBox x = still("on 200;bulb 0;lamp 4;");
        x.trouble(32);
        x.cover(true);
        x.run(8);
        due("part 2, COVERED, 7 above", 500, x.count(8));
        x.run(1);
        due("part 2, COVERED, 8 above", 501, x.count(8));
        for (int below = 6; below < 10; below++) {
            x = still("on 200;bulb 0;lamp 4;");
            x.trouble(32);
            x.run(below + 1);
            x.cover(true);
            x.keep(0);
            box(x, STILL + "bulb 1;");
            x.goBack(0);
            due("part 2, READING ahead", 500 + below, x.count(8));
            x.run(1);
            due("part 2, COVERED, " + below + " below", 500 + below - below / 8, x.count(8));
            x.cover(false);
            x.run(1);
            due("part 2, not COVERED", 500, x.count(8));
        }
        x = still("on 200;bulb 0;lamp 99;");
        x.trouble(32);
        x.run(50);
        x.cover(true);
        int reading = x.count(8);
        x.cover(false);
        x.cover(true);
        due("part 2, COVERED: the former READING stands", reading, x.count(8));
        x.fresh();
        x.cover(true);
        x.run(1);
        due("part 2, FRESH: the former READING is 500", 500, x.count(8));
    }

    private static long movedOf(int power, int troubles, String room) {
        ColdBox x = still("power " + power + ";on 50;" + room);
        x.trouble(troubles);
        x.run(1);
        due("part 2, THE COIL of power " + power, (-40000 - x.heat(4)) / 40, x.warmth(3));
        return x.heat(4);
    }

    private static void powerEdges() {
        due("part 2, 0 at least", 0, movedOf(374, 0, ""));
        due("part 2, power as much as is lost", 0, movedOf(375, 0, ""));
        due("part 2, power just more", 1, movedOf(376, 0, ""));
        due("part 2, the least power", 0, movedOf(1, 0, ""));
        due("part 2, on though nothing is MOVED", 10, usedOf("power 1;on 50;", 0));
        for (int power = 251; power <= 999; power += 17) {
            long fluffed = power - power * 50 / 100;
            due("part 2, FLUFFED, cut", Math.max(0, fluffed - 125), movedOf(power, 4, "room 0;"));
            due("part 2, SHORT, cut", Math.max(0, power - power * 45 / 100 - 125), movedOf(power, 8, "room 0;"));
            due("part 2, SHORT behind FLUFFED", Math.max(0, fluffed - fluffed * 45 / 100 - 125), movedOf(power, 12, "room 0;"));
        }
        // A ROOM colder than THE COIL: what is lost is below 0, and cut towards 0.
        ColdBox x = still("power 40;room 0;on 100;");
        x.thaw();
        x.run(1);
        due("part 2, THE COIL of 1000 over a ROOM of 0", 40 + 125, x.heat(4));
        due("part 2, THE COIL then", 995, x.warmth(3));
        x.run(1);
        due("part 2, THE COIL of 995", 40 + 125 + 40 + 124, x.heat(4));
    }

    private static long usedOf(String box, int troubles) {
        ColdBox x = still(box);
        x.trouble(troubles);
        x.run(1);
        return x.count(1);
    }

    private static void wetEdges() {
        ColdBox x = made("wall 0;seal 99;mix 0;cold 0;room 50;on 200;", "");
        x.trouble(1);
        x.run(24);
        due("part 2, FUR", 9792, x.count(5));
        due("part 2, nothing PASSES", 0, x.count(7));
        x.run(1);
        due("part 2, 9999 at most", 9999, x.count(5));
        due("part 2, what is above PASSES", 201, x.count(7));
        x.run(1);
        due("part 2, 9999 stays", 9999, x.count(5));
        due("part 2, all PASSES", 201 + 408, x.count(7));
        due("part 2, WET", 26 * 408, x.count(4));
        due("part 2, nothing DRAINS", 0, x.count(6));
        due("part 2, FUR just below", 9998, ofFur(9998).count(5));
        x = ofFur(9998);
        x.run(1);
        due("part 2, FUR from 9998", 9999, x.count(5));
        coilAroundZero();
        // "FUR loses WARMTH of THE COIL / 20 and 1 (what there is at most)": 600 are 11 times 51 and 39.
        x = still("on 200;");
        x.thaw();
        x.trouble(2);
        x.run(11);
        due("part 2, FUR loses 51 a TICK", 39, x.count(5));
        x.run(1);
        due("part 2, what there is at most", 0, x.count(5));
        due("part 2, DRAINED", 600, x.count(6));
        x.run(1);
        due("part 2, no FUR: nothing DRAINS", 600, x.count(6));
        x = made("wall 0;seal 7;mix 0;cold 0;on 200;", "");
        x.thaw();
        x.run(3);
        due("part 2, THE COIL is warm: WET PASSES", 21, x.count(7));
        due("part 2, no FUR", 0, x.count(5));
    }

    /** "if THE COIL's WARMTH (now) is below 0": HEAT of 0 to -39 is a WARMTH of 0 and DRAINS, -40 freezes. */
    private static void coilAroundZero() {
        int cutToZero = 0, justBelow = 0, twenty = 0, nineteen = 0;
        for (int power = 20; power <= 999; power += 9) {
            ColdBox x = made("wall 0;seal 3;mix 0;cold 0;room 0;on 50;power " + power + ";", "");
            x.thaw();
            long coil = 40000;
            int fur = 0;
            for (int t = 0; t < 110 && coil > -4000; t++) {
                x.trouble(16);
                x.trouble(16 + 2);
                fur = Math.max(fur, 600);
                x.run(1);
                coil -= power + coil / 40 / 8;
                long warm = coil / 40;
                fur += warm < 0 ? 3 : -(int) (warm / 20 + 1);
                due("part 2, THE COIL of HEAT " + coil, fur, x.count(5));
                if (warm == 0 && coil < 0) cutToZero++;
                if (warm == -1) justBelow++;
                if (warm == 19) nineteen++;
                if (warm == 20) twenty++;
            }
        }
        due("part 2, each of these edges was met", 1, cutToZero > 0 && justBelow > 0 && twenty > 0 && nineteen > 0 ? 1 : 0);
    }

    private static void troubleEdges() {
        // "FUR becomes 600, if it is less, as the TROUBLE comes".
        int[][] furs = {{0, 600}, {1, 600}, {599, 600}, {600, 600}, {601, 601}, {9999, 9999}};
        for (int[] f : furs) {
            ColdBox x = ofFur(f[0]);
            due("part 2, FUR ahead", f[0], x.count(5));
            x.trouble(2);
            due("part 2, FURRED comes", f[1], x.count(5));
            x.thaw();
            x.trouble(2 + 32);
            due("part 2, FURRED was there already", 0, x.count(5));
            x.trouble(32);
            due("part 2, FURRED goes", 0, x.count(5));
            x.trouble(2);
            due("part 2, FURRED comes again", 600, x.count(5));
        }
        // AJAR: "'seal' counts fourfold, and 12 more".
        for (int seal : new int[] {0, 1, 99}) {
            ColdBox x = made("wall 0;seal " + seal + ";mix 0;cold 0;on 200;", "open 1 1;");
            x.trouble(1);
            x.run(1);
            due("part 2, AJAR, WET of seal " + seal, 4 * seal + 12, x.count(4));
            due("part 2, AJAR, HEAT of seal " + seal, 3 * (4 * seal + 12) * 15, x.heat(1));
            x.fresh();
            x.run(2);
            due("part 2, AJAR and the door, WET of seal " + seal, 2 * (4 * seal + 12) + 20, x.count(4));
        }
        // LIT: in all TICKS, once a TICK if the door is open, too; not without current.
        ColdBox x = made(STILL + "on 200;lamp 99;", "open 1 2;");
        x.trouble(32);
        x.run(4);
        due("part 2, LIT and the door", 4 * 99, x.count(1));
        due("part 2, LIT gives HEAT times 5", 4 * 99 * 5, x.heat(3));
        x.current(false);
        x.run(4);
        due("part 2, LIT without current", 4 * 99, x.count(1));
        due("part 2, the door lets WET in without current", 40, x.count(4));
        due("part 2, no lamp", 0, usedOf("lamp 0;on 200;", 32));
        // PLACED: 800 more.
        x = made("wall 1;seal 0;mix 0;cold 0;on 200;room 0;", "");
        x.trouble(64);
        x.run(1);
        due("part 2, PLACED in a ROOM of 0", 3 * 3, x.heat(1));
    }

    // ---- part 3: signs

    private static void signEdges() {
        ColdBox x = still("on 51;off 49;use 99;lamp 99;");
        due("part 3, all TICKS", 288, x.sign(16, 1, 0));
        due("part 3, STARTS in the first DAY", 1, x.sign(16, 1, 1));
        due("part 3, STARTS in the last DAY", 0, x.sign(16, 2, 1));
        due("part 3, never on", 0, x.sign(0, 6, 0));
        due("part 3, AIR as at first", 500, x.sign(0, 6, 3));
        due("part 3, FUR of none", 0, x.sign(0, 6, 5));
        due("part 3, FUR of FURRED", 600, x.sign(2, 6, 5));
        due("part 3, USED in the last DAY alone", 288 * 198, x.sign(48, 6, 6));
        due("part 3, nothing USED", 0, x.sign(0, 1, 6));
        x.current(false);
        due("part 3, with current", 288, x.sign(16, 1, 0));
        due("part 3, current is as it was", 0, x.current(false));
        x = made("wall 0;seal 99;mix 0;cold 0;room 50;on 200;", "");
        due("part 3, FUR of 9999", 9999, x.sign(1, 1, 5));
    }

    private static ColdBox sureOfNone() {
        ColdBox x = still("on 200;");
        for (int k = 0; k < 7; k++) x.prior(k, 0);
        return x;
    }

    private static void weightEdges() {
        // "halved (cut) as often as E goes into its difference", and "20 times at most": a MILLION halved 19 times is 1.
        ColdBox x = sureOfNone();
        int shown = x.sign(0, 1, 2);
        due("part 3, a SIGN of a still box", 500, shown);
        int[] far = {0, 1, 18, 19, 20, 21, 31, 32, 33, 63, 64, 65, 127, 128, 9999};
        for (int d : far) {
            for (int sign = -1; sign <= 1; sign += 2) {
                x.seen(2, shown + sign * d, 1);
                due("part 3, halved " + d + " times", d < 20 ? 1000000 : 0, x.odds(0, 1));
                due("part 3, halved " + d + " times, another SET", 0, x.odds(1, 1));
            }
        }
        x.seen(2, -99999, 1);
        due("part 3, a difference of 100499", 0, x.odds(0, 1));
        x.seen(2, 99999, 999);
        due("part 3, a difference of 99499 by 999 (20 times at most)", 0, x.odds(0, 1));
        x.forget();
        due("part 3, SEEN no more", 1000000, x.odds(0, 1));
        // FUR of FURRED is 600 in the still box, 0 without: E of 601, 600, 301, 300 goes 0, 1, 1, 2 times into it.
        x.prior(1, 500);
        int[][] halvings = {{999, 0}, {601, 0}, {600, 1}, {301, 1}, {300, 2}, {201, 2}, {200, 3}, {1, 20}};
        for (int[] h : halvings) {
            x.seen(5, 600, h[0]);
            long none = 500000 >> h[1];
            due("part 3, E of " + h[0], 1000000L * 500000 / (500000 + none), x.odds(2, 1));
            due("part 3, E of " + h[0], 1000000L * none / (500000 + none), x.odds(0, 1));
            due("part 3, E of " + h[0], x.odds(2, 1), x.each(1, 1));
        }
        // "in order": 'of several SIGNS each halves'.
        x.seen(5, 0, 600);
        x.seen(2, 501, 1);
        x.seen(3, 499, 1);
        due("part 3, three SIGNS", 1000000L * 62500 / (62500 + 125000), x.odds(2, 1));
        // "part 0, if all are 0": PRIORS that are sure of three; WEIGHTS that are cut to 0 one by one.
        x = sureOfNone();
        for (int k = 0; k < 3; k++) x.prior(k, 1000);
        allZero("part 3, sure of three", x);
        x = sureOfNone();
        for (int k = 0; k < 7; k++) x.prior(k, 999);
        allZero("part 3, cut to 0", x);
        x = sureOfNone();
        x.prior(0, 1000);
        x.prior(6, 1000);
        due("part 3, sure of two", 1000000, x.odds(65, 1));
        due("part 3, sure of two, none", 0, x.odds(0, 1));
        due("part 3, sure of two, each", 1000000, x.each(6, 1));
        // "/ 1000 (cut ..)" at each TROUBLE: 1000000, 1000, 1 for two of 1; of one of 1 and 998 left of others.
        x = sureOfNone();
        x.prior(0, 1);
        x.prior(1, 1);
        due("part 3, WEIGHT of none", 1000000L * 998001 / (998001 + 999 + 999 + 1), x.odds(0, 1));
        due("part 3, WEIGHT of one", 1000000L * 999 / (998001 + 999 + 999 + 1), x.odds(1, 1));
        due("part 3, WEIGHT of two", 1, x.odds(3, 1));
        x.prior(2, 1);
        due("part 3, WEIGHT of two, cut", 0, x.odds(5, 1));
        due("part 3, all WEIGHTS are cut", 1000000L * 998 / (997002 + 998 + 998 + 998), x.odds(1, 1));
    }

    private static void allZero(String what, ColdBox x) {
        due(what + ": odds of none", 0, x.odds(0, 1));
        due(what + ": odds of two", 0, x.odds(3, 1));
        due(what + ": each", 0, x.each(0, 1));
        for (int sign = 0; sign < 7; sign++) due(what + ": tells", 0, x.tells(sign, 1));
        due(what + ": next", 0, x.next(1));
        x.bother(0, 1);
        due(what + ": next by BOTHER", 1, x.next(1));
    }

    private static void classEdges() {
        // "0 of no WEIGHT"; one class tells nothing, two like ones 500; FUR of 600 and 0 by E.
        ColdBox x = sureOfNone();
        due("part 3, one SET: nothing is told", 0, x.tells(5, 1));
        x.prior(1, 500);
        due("part 3, by E 50", 500, x.tells(5, 1));
        due("part 3, all alike", 0, x.tells(2, 1));
        x.seen(5, 300, 601);
        due("part 3, by E 601: one class", 0, x.tells(5, 1));
        x.seen(5, 300, 600);
        due("part 3, by E 600: two classes", 500, x.tells(5, 1));
        x.forget();
        x.prior(1, 1);
        due("part 3, 1000 less what is cut", 1000 - 1000L * (999000L * 999000 + 1000L * 1000) / 1000000000000L, x.tells(5, 1));
        // By E 50: USED of LIT is 288, of STUCK as many TICKS more as the door is open; none is 11 or 12, both are 576.
        for (int open = 11; open <= 12; open++) {
            x = made(STILL + "on 200;use 1;lamp 1;", "open 9 " + open + ";");
            for (int k = 0; k < 7; k++) x.prior(k, k == 4 || k == 5 ? 500 : 0);
            due("part 3, USED of LIT", 288, x.sign(32, 1, 6));
            due("part 3, USED of STUCK", 288 + open, x.sign(16, 1, 6));
            due("part 3, by E 50: 288 and " + (288 + open), open == 11 ? 1000 - 1000 * 6 / 16 : 750, x.tells(6, 1));
            x.seen(6, 0, 51);
            x.forget();
            due("part 3, by E 50 again", open == 11 ? 1000 - 1000 * 6 / 16 : 750, x.tells(6, 1));
        }
        // "(cut)" is towards 0: by an E just above both, a WARMTH below 0 and one above 0 are one class.
        x = made("power 665; lamp 4; cold 90;", "");
        for (int k = 0; k < 7; k++) x.prior(k, k == 4 ? 1000 : k == 5 ? 500 : 0);
        int below = x.sign(16, 1, 2), above = x.sign(48, 1, 2);
        due("part 3, one SET shows less than 0, the other more", 1, below < 0 && above > 0 ? 1 : 0);
        int far = Math.max(-below, above);
        due("part 3, not as far", 1, -below != above ? 1 : 0);
        x.seen(2, 0, far + 1);
        due("part 3, a class from below 0 to above 0", 0, x.tells(2, 1));
        x.seen(2, 0, far);
        due("part 3, by an E less by 1: two classes, one halved", 1000 - 1000 * 5 / 9, x.tells(2, 1));
    }

    private static void nextEdges() {
        ColdBox x = sureOfNone();
        due("part 3, of like ones the least", 0, x.next(6));
        for (int what = 0; what < 7; what++) {
            x.seen(what, 0, 999);
            due("part 3, of those not SEEN", what < 6 ? what + 1 : NONE, x.next(6));
        }
        x.forget();
        due("part 3, not SEEN any more", 0, x.next(6));
        for (int what = 0; what < 7; what++) x.bother(what, 999);
        due("part 3, all bother most", 0, x.next(1));
        x.bother(6, 998);
        due("part 3, less its BOTHER", 6, x.next(1));
        x.seen(6, 0, 1);
        due("part 3, not SEEN", 0, x.next(1));
        // FUR TELLS 500: a BOTHER of 499 leaves it, of 500 makes it like, of 501 worse.
        x = sureOfNone();
        x.prior(1, 500);
        due("part 3, TELLS most", 5, x.next(1));
        x.bother(5, 499);
        due("part 3, TELLS most less 499", 5, x.next(1));
        x.bother(5, 500);
        due("part 3, like ones", 0, x.next(1));
        for (int what = 0; what < 5; what++) x.bother(what, 1);
        due("part 3, like ones", 5, x.next(1));
        x.bother(5, 501);
        due("part 3, worse by 1", 6, x.next(1));
    }

    private static void makesEdges() {
        // FUR of "600 or more" at a DAY's end: 30 TICKS of open door are 600, 29 are 580.
        due("part 3, FUR of 600 on the first DAY", 1, made(STILL + "on 200;", "open 0 20;open 20 10;").makes(0, 0));
        due("part 3, FUR of 580 on the first DAY", 2, made(STILL + "on 200;", "open 0 20;open 20 9;").makes(0, 0));
        due("part 3, FUR of 600 on the 30th DAY", 30, made(STILL + "on 200;", "open 0 1;").makes(0, 0));
        due("part 3, no FUR", NONE, still("on 200;").makes(0, 0));
        due("part 3, FURRED", 1, still("on 200;").makes(2, 0));
        // On in all TICKS: the door warms AIR in each DAY's last TICK, so a DAY is on in all or in none.
        int thirtieth = 0, late = 0;
        for (int on = 50; on <= 160; on++) {
            int day = 1;
            for (long heat = 10000; heat / 20 < 10 * on; heat += 60 * (2000 - heat / 20) / 100) day++;
            ColdBox x = made(STILL + "bulb 0;lamp 0;off 0;on " + on + ";", "open 287 1;");
            due("part 3, on in all TICKS, 'on' " + on, day <= 30 ? day : NONE, x.makes(0, 1));
            if (day == 30) thirtieth++;
            if (day == 31) late++;
        }
        due("part 3, the 30th DAY, the 31st", 1, thirtieth > 0 && late > 0 ? 1 : 0);
        // 287 TICKS are not all: the door warms in the DAY's first TICK.
        due("part 3, 287 TICKS", 2, made(STILL + "bulb 0;lamp 0;on 51;", "open 0 1;").makes(0, 1));
        due("part 3, STUCK", 1, still("on 200;").makes(16, 1));
        due("part 3, never on", NONE, still("on 200;").makes(14, 1));
    }

    // ---- part 4: money

    private static void moneyEdges() {
        ColdBox x = still("on 200;use 1;lamp 0;");
        due("part 4, YEAR of 288 a DAY, cut", 288 * 365 * 30 / 1000, x.year(16));
        x.price(1);
        due("part 4, YEAR at 1, cut", 105, x.year(16));
        x.price(0);
        due("part 4, YEAR at 0", 0, x.year(16));
        x.price(999);
        due("part 4, YEAR of nothing", 0, x.year(0));
        due("part 4, SAVES all", x.year(127), x.saves(127, 127));
        due("part 4, SAVES by none", 0, x.saves(127, 0));
        due("part 4, SAVES of none by none", 0, x.saves(0, 0));
        due("part 4, no part by one bit", NOT, x.saves(126, 1));
        due("part 4, no part of none", NOT, x.saves(0, 64));
        // "USED of the last of two DAYS": the door warms AIR 0 to 545 and to 588 at the DAYS' ends.
        for (int on = 50; on < 60; on++) {
            x = made(STILL + "bulb 0;off 0;lamp 0;on " + on + ";", "open 287 1;");
            due("part 4, YEAR if it is on from " + on, on <= 54 ? 2880 * 365 * 30 / 1000 : 0, x.year(0));
        }
        for (int from = 0; from < 2; from++) {
            x = made(STILL + "on 200;lamp 1;", from == 0 ? "open 0 1;" : "open 287 1;");
            due("part 4, YEAR of a TICK's lamp", 1 * 365 * 30 / 1000, x.year(0));
        }
        x = made("use 99;lamp 99;room 400;", "");
        x.price(999);
        due("part 4, the most", 288L * 198 * 365 * 999 / 1000, x.year(48));
    }

    private static void bestEdges() {
        // STUCK and LIT: each saves of its own; a cost of c or less.
        ColdBox x = still("on 200;use 10;lamp 10;");
        x.mending(4, 60);
        x.mending(5, 61);
        int year = x.year(16);
        due("part 4, both alike", year, x.year(32));
        int[][] want = {{0, 0}, {59, 0}, {60, 16}, {61, 16}, {120, 16}, {121, 48}, {9999, 48}};
        for (int[] w : want) {
            due("part 4, the best for " + w[0], w[1], x.best(48, w[0], 0));
            due("part 4, it SAVES", x.saves(48, w[1]), x.best(48, w[0], 1));
            due("part 4, its cost", w[1] == 48 ? 121 : w[1] == 16 ? 60 : 0, x.best(48, w[0], 2));
        }
        x.mending(4, 62);
        due("part 4, of like ones the cheapest", 32, x.best(48, 99, 0));
        x.mending(4, 61);
        due("part 4, then the least SET", 16, x.best(48, 99, 0));
        x.mending(0, 0);
        due("part 4, for nothing, SAVES nothing: the least SET", 16, x.best(49, 99, 0));
        due("part 4, none there", 0, x.best(0, 9999, 0));
        due("part 4, none there: its cost", 0, x.best(0, 9999, 2));
        due("part 4, nothing to save", 0, x.best(78, 9999, 0));
        x.mending(4, 0);
        due("part 4, for no coins", 16, x.best(48, 0, 0));
        x.price(0);
        due("part 4, PRICE of 0: none", 0, x.best(48, 9999, 0));
        for (int k = 0; k < 7; k++) x.mending(k, 999);
        x.price(999);
        due("part 4, all cost most", 48, x.best(126, 9999, 0));
        due("part 4, a coin too few", 16, x.best(48, 2 * 999 - 1, 0));
        // STUCK is on for three TICKS more of the second DAY: 288 and 285 USED are a YEAR of 105 and 104.
        x = made(STILL + "bulb 0;on 58;off 0;lamp 0;use 1;", "open 2 1;");
        x.price(1);
        due("part 4, a coin to save", 1, x.saves(16, 16));
        due("part 4, a coin to save: the best", 16, x.best(16, 50, 0));
        due("part 4, a coin to save: SAVES", 1, x.best(16, 50, 1));
        x.price(2);
        due("part 4, two coins to save", 2, x.saves(16, 16));
    }

    private static void paysEdges() {
        ColdBox x = still("on 200;use 10;lamp 0;");
        x.price(100);
        due("part 4, YEAR", 105120, x.year(16));
        due("part 4, a NEW one's, cut", 105083, 2879 * 365 * 100 / 1000);
        int[][] want = {{0, 1}, {1, 1}, {36, 1}, {37, 1}, {38, 2}, {74, 2}, {75, 3}, {29 * 37, 29}, {29 * 37 + 1, 30},
            {30 * 37, 30}, {30 * 37 + 1, NONE}, {99999, NONE}};
        for (int[] w : want) due("part 4, PAYS " + w[0], w[1], x.pays(16, w[0], 2879));
        due("part 4, it uses as much, for nothing", 1, x.pays(16, 0, 2880));
        due("part 4, it uses as much", NONE, x.pays(16, 1, 2880));
        due("part 4, it uses more, for nothing", NONE, x.pays(16, 0, 2881));
        due("part 4, it uses most", NONE, x.pays(0, 0, 9999));
        due("part 4, it uses nothing", 1, x.pays(16, 99999, 0));
        x.price(0);
        due("part 4, PRICE of 0, for nothing", 1, x.pays(0, 0, 9999));
        due("part 4, PRICE of 0", NONE, x.pays(16, 1, 0));
    }

    private static long usedThawing(String box, int n, int p) {
        ColdBox x = made(box, "");
        for (int d = 0; d < n; d++) {
            if (d > 0 && p > 0 && d % p == 0) x.thaw();
            x.run(288);
        }
        return x.count(1);
    }

    private static int icePaid(String box, int n, int b, int price) {
        int found = NONE;
        long least = Long.MAX_VALUE;
        for (int p = 0; p <= 20; p++) {
            long paid = usedThawing(box, n, p) * price / 1000;
            for (int d = 1; d < n; d++) paid += p > 0 && d % p == 0 ? b : 0;
            if (paid < least) {
                found = p;
                least = paid;
            }
        }
        return found;
    }

    private static void iceEdges() {
        String text = "power 750; wall 2; seal 14; cold 46; on 122; off 118; mix 37; bulb 0;";
        ColdBox x = made(text, "");
        x.price(999);
        boolean[] found = new boolean[21];
        for (int n : new int[] {1, 2, 3, 19, 20}) {
            for (int b : new int[] {0, 1, 100, 999}) {
                int want = icePaid(text, n, b, 999);
                due("part 4, THE ICE of " + n + " DAYS, bother " + b, want, x.ice(0, n, b));
                if (n == 1) due("part 4, THAWED not on the first DAY", 0, want);
                if (want != NONE) found[want] = true;
            }
        }
        int often = 0;
        for (int p = 1; p <= 20; p++) often += found[p] ? 1 : 0;
        due("part 4, some p are best, and never", 1, found[0] && often > 1 ? 1 : 0);
        due("part 4, of like ones the least: all alike", 0, still("on 200;").ice(127, 20, 0));
        x.price(0);
        due("part 4, a PRICE of 0: never", 0, x.ice(0, 20, 0));
        due("part 4, a PRICE of 0: never", 0, x.ice(0, 20, 999));
    }

    // ---- part 4: plans

    /** A box that warms on and on, alike on each SHELF, with a FOOD on SHELF 1; no machine, no lamp. */
    private static ColdBox warming(int high) {
        ColdBox x = made("wall 1;seal 0;mix 0;cold 0;food 50;on 200;room 400;stove 0 24 200;", "");
        x.put(1, 500, 1, -3000, high);
        return x;
    }

    /** The FOOD's WARMTH at the end of each TICK. */
    private static int[] warmths(int n) {
        int[] warm = new int[n];
        for (int t = 0; t < n; t++) {
            ColdBox x = warming(9000);
            x.run(t + 1);
            warm[t] = x.food(0, 1);
            if (t > 0) due("part 4, it warms on", 1, warm[t] > warm[t - 1] ? 1 : 0);
        }
        return warm;
    }

    private static void lyingEdges() {
        ColdBox x = new ColdBox();
        due("part 4, no FOODS", 0, x.lying(NONE));
        x = still("");
        for (int f = 0; f < 6; f++) x.put(2, 500, 1, 500, 500);
        due("part 4, six FOODS", 6 * 288, x.lying(NONE));
        for (int f = 0; f < 6; f++) due("part 4, of like ones the first", 0, x.lying(f));
        x.put(2, 500, 1, 500, 500);
        due("part 4, seven FOODS", NOT, x.lying(NONE));
        x.put(2, 500, 1, 500, 500);
        due("part 4, eight FOODS", NOT, x.lying(7));
        x.take(0);
        x.take(3);
        due("part 4, six again", 6 * 288, x.lying(NONE));
        due("part 4, taken", UNKNOWN, x.lying(3));
        // "at the end of each TICK of the second DAY from now".
        int[] warm = warmths(600);
        for (int last : new int[] {0, 287, 288, 289, 574, 575, 576, 577}) {
            x = last == 0 ? warming(499) : warming(warm[last - 1]);
            due("part 4, within for " + last + " TICKS", Math.max(0, Math.min(last - 288, 288)), x.lying(NONE));
            due("part 4, lying within for " + last + " TICKS", 0, x.lying(0));
            due("part 4, the bulb, within for " + last + " TICKS", Math.max(0, Math.min(last - 288, 288)), x.bulb(1));
        }
    }

    private static void bulbEdges() {
        ColdBox x = new ColdBox();
        due("part 4, the bulb of no FOODS", 0, x.bulb(0));
        due("part 4, the bulb of no FOODS", 0, x.bulb(1));
        x = still("bulb 2;");
        for (int f = 0; f < 8; f++) x.put(2, 500, 1, 500, 500);
        due("part 4, the bulb of eight FOODS", 8 * 288, x.bulb(1));
        due("part 4, of like ones the least", 0, x.bulb(0));
        due("part 4, THE BOX's bulb stays", 2, x.told(8));
        for (int f = 0; f < 8; f++) x.take(f);
        x.put(0, 500, 1, 501, 501);
        due("part 4, none within", 0, x.bulb(1));
        due("part 4, none within: the least", 0, x.bulb(0));
    }

    private static void withoutEdges() {
        int[] warm = warmths(870);
        for (int last : new int[] {1, 2, 288, 575, 576, 863, 864, 865, 866}) {
            due("part 4, WITHOUT CURRENT for " + last + " TICKS", last > 864 ? NONE : last, warming(warm[last - 1]).without(0));
        }
        ColdBox x = warming(9000);
        x.put(0, 400, 1, -3000, 400);
        due("part 4, it is within now", 1, x.food(1, 5));
        due("part 4, not at the end of the first TICK", 0, x.without(1));
        due("part 4, longer", NONE, warming(9000).without(0));
        // Out of its span now, within at the end of the first TICK.
        x = warming(9000);
        x.put(0, 0, 1, 1, 9000);
        due("part 4, not within now", 0, x.food(1, 5));
        due("part 4, within at the end of each", NONE, x.without(1));
        // The span's lower end.
        x = made("wall 9;seal 0;mix 0;cold 0;room 0;food 50;on 200;", "");
        x.put(0, 500, 1, 400, 9000);
        int ticks = x.without(0);
        x.run(ticks);
        due("part 4, within by its lower end", 1, x.food(0, 5));
        x.run(1);
        due("part 4, below its lower end", 0, x.food(0, 5));
    }

    private static void cheapEdges() {
        // "HOURS as of the stove": A is no more than the HOUR, and that less than B; PRICE v in place of the other.
        int[][] hours = {{0, 24}, {0, 1}, {23, 24}, {5, 9}, {NONE, 9}};
        for (int[] h : hours) {
            for (int from : new int[] {0, 1, 59, 60, 107, 108, 287}) {
                ColdBox x = still("on 200;use 10;");
                x.trouble(16);
                x.run(from + 1);
                x.price(100);
                due("promise 42, cheap", 1, x.cheap(h[0], h[1], 7));
                for (int n = 1; n <= 6; n += 5) {
                    long paid = 0;
                    for (int t = 0; t < 288 * n; t++) {
                        int hour = (from + 1 + t) % 288 / 12;
                        paid += 10 * (h[0] != NONE && h[0] <= hour && hour < h[1] ? 7 : 100);
                    }
                    due("part 4, paid from TICK " + (from + 1) + ", " + h[0] + " to " + h[1], paid / 1000, x.store(n, 1));
                    due("part 4, of like ones the least", 0, x.store(n, 0));
                }
            }
        }
        // "all together / 1000, cut": a TICK's lamp of 27 at a PRICE of 37 is 999, of 25 at 40 is 1000.
        for (int n = 1; n <= 6; n++) {
            ColdBox x = made(STILL + "on 200;lamp 27;", "open 5 1;");
            x.price(37);
            due("part 4, 999 of " + n + " DAYS, cut", 999 * n / 1000, x.store(n, 1));
            x = made(STILL + "on 200;lamp 25;", "open 5 1;");
            x.price(40);
            due("part 4, 1000 of " + n + " DAYS", n, x.store(n, 1));
        }
        // 288 TICKS of 1 at a PRICE of 3 are 864, of 4 are 1152.
        ColdBox x = still("on 200;use 1;");
        x.trouble(16);
        x.price(3);
        due("part 4, cut to 0", 0, x.store(1, 1));
        x.price(4);
        due("part 4, cut to 1", 1, x.store(1, 1));
        x.cheap(0, 24, 0);
        due("part 4, PRICE v of 0", 0, x.store(6, 1));
        x.cheap(0, 24, 999);
        due("part 4, PRICE v of 999", 288 * 6 * 999 / 1000, x.store(6, 1));
        x.cheap(NONE, 1, 0);
        due("part 4, there are none", 1, x.store(1, 1));
    }

    private static ColdBox warmingWithout(int high) {
        ColdBox x = warming(high);
        x.current(false);
        return x;
    }

    private static void storeEdges() {
        ColdBox x = new ColdBox();
        due("part 4, no FOODS: all are within", 0, x.store(1, 0));
        // "at the end of each TICK" of n DAYS.
        x = warmingWithout(9000);
        for (int n : new int[] {1, 2, 6}) {
            x.fresh();
            x.put(1, 500, 1, -3000, 9000);
            x.run(288 * n - 1);
            int ahead = x.food(0, 1);
            x.run(1);
            int last = x.food(0, 1);
            due("part 4, it warms in the last TICK", 1, last > ahead ? 1 : 0);
            due("part 4, within for all TICKS", 0, warmingWithout(last).store(n, 0));
            due("part 4, nothing USED, nothing paid", 0, warmingWithout(last).store(n, 1));
            due("part 4, out at the last TICK's end", NONE, warmingWithout(ahead).store(n, 0));
            due("part 4, out at the last TICK's end", NONE, warmingWithout(ahead).store(n, 1));
            ColdBox y = warmingWithout(9000);
            y.put(0, 500, 1, -3000, ahead);
            due("part 4, one of two is out", NONE, y.store(n, 0));
        }
        storedByOn();
        storedByOff();
    }

    /** AIR 0 stays at 500 only if the machine is on from the first TICK: what comes in is what THE COIL takes. */
    private static ColdBox balanced(String more) {
        return made("wall 30;seal 0;mix 0;cold 30;food 99;power 999;use 10;bulb 0;" + more, "");
    }

    /** "those 'on' .. are d tenths less", d of 0 to 40 by fives: it is on if READING of 500 is 'on' less d or more. */
    private static void storedByOn() {
        for (int on = 48; on <= 100; on++) {
            ColdBox x = balanced("off 0;on " + on + ";");
            x.put(0, 500, 1, -3000, 500);
            x.cheap(0, 24, 100);
            x.price(1);
            int d = on <= 50 ? 0 : (on - 50 + 4) / 5 * 5;
            due("part 4, STORED, 'on' of " + on, d <= 40 ? d : NONE, x.store(1, 0));
            due("part 4, paid, 'on' of " + on, d <= 40 ? 288 * 10 * 100 / 1000 : NONE, x.store(1, 1));
            x.cheap(NONE, 1, 100);
            due("part 4, not STORED, 'on' of " + on, d == 0 ? 0 : NONE, x.store(1, 0));
            x.cheap(1, 24, 100);
            due("part 4, STORED too late, 'on' of " + on, d == 0 ? 0 : NONE, x.store(1, 0));
            x.cheap(0, 1, 100);
            due("part 4, STORED in the first HOUR, 'on' of " + on, d <= 40 ? d : NONE, x.store(1, 0));
            due("part 4, paid, 'on' of " + on, d <= 40 ? (12 * 10 * 100 + 276 * 10) / 1000 : NONE, x.store(1, 1));
        }
    }

    /** "and 'off' are d tenths less": it stays on if no READING of the DAY is 'off' less d, or less. */
    private static void storedByOff() {
        int least = HIGH;
        for (int t = 2; t < 6 * 288 + 2; t++) {
            ColdBox y = balanced("on 200;off 0;");
            y.trouble(16);
            y.run(t);
            least = Math.min(least, y.count(8));
        }
        for (int off = 10; off <= 70; off++) {
            ColdBox x = balanced("on 200;off " + off + ";");
            x.trouble(16);
            x.run(1);
            x.trouble(0);
            x.cheap(0, 24, 5);
            x.put(0, 500, 1, -3000, 500);
            due("part 4, AIR 0 ahead", 500, x.warmth(0));
            int d = 0;
            while (d <= 40 && (off - d) * 10 >= least) d += 5;
            due("part 4, STORED, 'off' of " + off, d <= 40 ? d : NONE, x.store(6, 0));
        }
    }

    private static void drawEdges() {
        ColdBox x = made(STILL + "on 200;lamp 1;", "open 0 20;");
        // "left over by 2 to the 31": the most that THE SEED may be.
        java.math.BigInteger seed = java.math.BigInteger.valueOf(2147483647);
        java.math.BigInteger most = java.math.BigInteger.ONE.shiftLeft(31);
        x.seed(2147483647);
        for (int i = 0; i < 100; i++) {
            due("part 4, a DRAW is open for a TICK", 1, x.drawn(1, 1));
            seed = seed.multiply(java.math.BigInteger.valueOf(1103515245)).add(java.math.BigInteger.valueOf(12345)).mod(most);
            due("part 4, THE SEED then", seed.longValue(), x.seed(seed.intValue()));
        }
        // "once, if one comes again": of 20 DRAWS there are often less TICKS.
        x = made(STILL + "on 200;lamp 1;", "open 0 20;");
        int again = 0;
        for (int from = 0; from < 40; from++) {
            java.util.Set<Long> ticks = new java.util.TreeSet<>();
            long next = from * 999999L;
            for (int k = 0; k < 20; k++) {
                next = (next * 1103515245L + 12345) % 2147483648L;
                ticks.add(next / 65536 % 288);
            }
            x.seed((int) (from * 999999L));
            int wet = x.count(4);
            due("part 4, 20 DRAWS", ticks.size(), x.drawn(1, 20));
            due("part 4, WET of 20 DRAWS", 20 * ticks.size(), x.count(4) - wet);
            if (ticks.size() < 20) again++;
        }
        due("part 4, one came again", 1, again > 0 ? 1 : 0);
        // m of 0: no DRAW, and no door of THE DAY's either.
        x.seed(5);
        due("part 4, no DRAWS", 0, x.drawn(10, 0));
        due("part 4, THE SEED stays", 5, x.seed(0));
        x.run(288);
        due("part 4, THE DAY's again", 20, x.count(1) - usedBefore(x));
        drawTimes();
    }

    /** What was USED up to the DAY that went by last: a lamp of 1 gives 5 of HEAT. */
    private static long usedBefore(ColdBox x) {
        return x.heat(3) / 5 - 20;
    }

    /** "DRAWS ahead of the first of them, and of each that is a DAY's first". */
    private static void drawTimes() {
        for (int ahead : new int[] {0, 1, 287, 288}) {
            for (int n : new int[] {1, 2, 10}) {
                ColdBox x = made(STILL + "on 200;lamp 1;", "");
                if (ahead > 0) x.run(ahead);
                int times = ahead % 288 == 0 ? n : n + 1;
                long next = 0;
                int open = 0;
                for (int d = 0; d < times; d++) {
                    java.util.Set<Long> ticks = new java.util.TreeSet<>();
                    for (int k = 0; k < 7; k++) {
                        next = (next * 1103515245L + 12345) % 2147483648L;
                        long t = next / 65536 % 288;
                        boolean gone = d == 0 && t < ahead % 288 || d == n && t >= ahead % 288;
                        if (!gone) ticks.add(t);
                    }
                    open += ticks.size();
                }
                due("17, " + n + " DAYS from TICK " + ahead, open, x.drawn(n, 7));
                due("promise 17, THE SEED then", next, x.seed(0));
                due("promise 17, TICKS", ahead + 288 * n, x.count(0));
            }
        }
    }

    private static void imageEdges() {
        ColdBox x = new ColdBox();
        due("promise 46, not kept", NOT, x.goBack(0));
        due("promise 46, not kept", NOT, x.goBack(1));
        due("promise 45, keep", 1, x.keep(1));
        due("promise 46, the other is not", NOT, x.goBack(0));
        due("promise 46, kept", 1, x.goBack(1));
        x.put(0, 1, 1, 1, 1);
        x.run(9);
        due("promise 46, back", 1, x.goBack(1));
        due("promise 46, TICK", 0, x.count(0));
        due("promise 46, no FOODS", 0, x.count(10));
        x.run(4);
        due("promise 46, back again", 1, x.goBack(1));
        due("promise 46, the IMAGE is as it was", 0, x.count(0));
        x.run(5);
        due("promise 45, kept anew", 1, x.keep(1));
        x.run(1);
        x.goBack(1);
        due("promise 45, the latest", 5, x.count(0));
        x.keep(0);
        x.run(2);
        x.keep(1);
        x.goBack(0);
        due("promise 45, two IMAGES", 5, x.count(0));
        x.goBack(1);
        due("promise 45, two IMAGES", 7, x.count(0));
        // FUR and TROUBLES come from the IMAGE, FURRED does not come anew.
        x = still("on 200;");
        x.trouble(2);
        x.thaw();
        x.keep(0);
        x.trouble(0);
        x.goBack(0);
        due("promise 46, FUR of the IMAGE", 0, x.count(5));
        due("promise 46, TROUBLES of the IMAGE", 2, x.trouble(2));
        due("promise 46, FURRED was there", 0, x.count(5));
        // What no IMAGE keeps.
        x = rich();
        x.keep(1);
        box(x, " 1;mix 9;");
        day(x, "open 1 1;");
        x.prior(0, 1);
        x.bother(0, 2);
        x.mending(0, 3);
        x.price(4);
        x.cheap(NONE, 1, 1);
        x.forget();
        tell(x, "ab");
        x.goBack(1);
        due("promise 46, THE BOX stays", 9, x.told(3));
        due("promise 46, THE DAY stays", 1, x.opening(0, 0));
        due("promise 46, SEEN stays", 0, x.forget());
        due("promise 46, PRIOR stays", 1, x.prior(0, 1));
        due("promise 46, BOTHER stays", 2, x.bother(0, 2));
        due("promise 46, MENDING stays", 3, x.mending(0, 3));
        due("promise 46, PRICE stays", 4, x.price(4));
        due("promise 46, THE TEXT stays", 2, x.count(11));
    }

    // ---- the promises, call by call

    private static void promise1() {
        ColdBox x = new ColdBox();
        due("promise 1, TROUBLES", 0, x.trouble(0));
        due("promise 1, current", 1, x.current(true));
        due("promise 1, COVERED", 0, x.cover(false));
        due("promise 1, THE TICK", 0, x.fresh());
        due("promise 1, openings", NONE, x.opening(0, 0));
        due("promise 1, FAULT", NONE, x.fault());
        due("promise 1, THE SEED", 0, x.seed(0));
        due("promise 1, SEEN", 0, x.forget());
        due("promise 1, PRICE", 30, x.price(30));
        for (int k = 0; k < 7; k++) {
            due("promise 1, PRIOR", 100, x.prior(k, 100));
            due("promise 1, BOTHER", 0, x.bother(k, 0));
            due("promise 1, MENDING", 50, x.mending(k, 50));
        }
        x.trouble(16);
        due("promise 1, no CHEAP HOURS", 288 * 10 * 30 / 1000, x.store(1, 1));
        for (int what = 1; what < 6; what++) due("promise 1, heat", 0, x.heat(what));
        for (int f = 0; f < 8; f++) due("promise 1, no FOODS", UNKNOWN, x.food(f, 0));
    }

    private static void promises2To7() {
        bounds("promise 2, feed", OUTSIDE, 1, 8, (x, n) -> x.feed(n, 0x2020202020202020L));
        ColdBox x = new ColdBox();
        due("promise 2, 8 bytes, the highest first", 8, x.feed(8, 0x7365616C20343220L));
        due("promise 2, a byte of 8", 9, x.feed(1, 0x616263646566673BL));
        due("promise 2, read", 1, x.box());
        due("promise 2, read", 42, x.told(2));
        due("promise 2, bytes below 0", 8, x.feed(8, -1L));
        due("promise 2, they are 255", -11, x.box());
        for (int length = 292; length <= 300; length++) {
            for (int n = 1; n <= 8; n++) {
                x = new ColdBox();
                for (int i = 0; i < length / 8; i++) x.feed(8, 0x2020202020202020L);
                if (length % 8 > 0) x.feed(length % 8, 0x2020202020202020L);
                due("2, " + n + " behind " + length, length + n > 300 ? FULL : length + n, x.feed(n, 0x3B3B3B3B3B3B3B3BL));
                due("promise 2, bytes then", length + n > 300 ? length : length + n, x.count(11));
                if (length + n > 300) due("promise 2, FULL: none of them came", 0, x.box());
            }
        }
        due("promise 2, OUTSIDE ahead of FULL", OUTSIDE, full().feed(9, 0));
        due("promise 2, OUTSIDE ahead of FULL", OUTSIDE, full().feed(0, 0));
        x = full();
        due("promise 3, THE TEXT is empty then", 0, x.box());
        due("promise 3, THE TEXT is empty then", 0, x.count(11));
        due("promise 2, not FULL", 8, x.feed(8, 0));
        x = full();
        due("promise 4, THE TEXT is empty then", 0, x.day());
        due("promise 4, THE TEXT is empty then", 0, x.count(11));
        // 5: the FAULT of the latest box() or day().
        x = new ColdBox();
        box(x, "wall 100;");
        due("promise 5, of box()", 5, x.fault());
        due("promise 5, again", 5, x.fault());
        day(x, "x");
        due("promise 5, of day()", 0, x.fault());
        box(x, "wall 1");
        due("promise 5, of box(), the end", 6, x.fault());
        day(x, "open 1 1;");
        due("promise 5, of day(), NONE", NONE, x.fault());
        day(x, "open 1 1");
        box(x, "");
        due("promise 5, of box(), NONE", NONE, x.fault());
        // 3: with a FAULT all else is as it was.
        faultLeavesAll();
        bounds("promise 6, told", OUTSIDE, 0, 14, ColdBox::told);
        bounds("promise 7, opening what", OUTSIDE, 0, 1, (y, what) -> y.opening(0, what));
        bounds("promise 7, opening what, not so many", OUTSIDE, 0, 1, (y, what) -> y.opening(3, what));
        for (int i : new int[] {-1, 3, 11, 12, LOW, HIGH}) due("promise 7, opening " + i, NONE, rich().opening(i, 0));
        for (int i = 0; i < 3; i++) due("promise 7, opening " + i, i == 0 ? 3 : i == 1 ? 10 : 20, rich().opening(i, 1));
        x = made("", TWELVE);
        due("promise 7, the twelfth", 12, x.opening(11, 0));
        due("promise 7, no thirteenth", NONE, x.opening(12, 0));
        due("promise 7, no openings", NONE, new ColdBox().opening(0, 1));
    }

    /** "(all else is as it was)": told by two objects with the same FAULT, the one behind a box() or day() that had it. */
    private static void faultLeavesAll() {
        for (String text : new String[] {" 5;wall 6;", " 5;on 5;off 5;", " 5;bulb 3;", "s 5;"}) {
            ColdBox x = rich();
            tell(x, text);
            due("promise 3, a FAULT of wall" + text, 1, x.box() < -10 ? 1 : 0);
            tell(x, "wall 5; q");
            due("promise 3, a FAULT as rich() has it", -11, x.box());
            tell(x, "wall");
            due("promise 3, all else is as it was", 1, RICH.equals(all(x)) ? 1 : 0);
        }
        ColdBox x = rich();
        due("promise 4, a FAULT", -11, x.day());
        tell(x, "open 1 1; q");
        due("promise 4, a FAULT behind an opening", -11, x.day());
        due("promise 4, its place", 10, x.fault());
        due("promise 4, a FAULT where rich() has it", -11, day(x, "open 5 5"));
        due("promise 4, its place", 8, x.fault());
        tell(x, "wall");
        due("promise 4, THE DAY is as it was", 1, all(x).equals(RICH) ? 1 : 0);
    }

    private static ColdBox full() {
        ColdBox x = new ColdBox();
        tell(x, padded("", 300));
        return x;
    }

    private static final int[] NO_FOODS = {-1, 1, 3, 7, 8, LOW, HIGH};

    private static void promises8To15() {
        bounds("promise 8, trouble", UNKNOWN, 0, 127, ColdBox::trouble);
        due("promise 9, fresh at first", 0, new ColdBox().fresh());
        ColdBox x = rich();
        due("promise 9, THE TICK as it was", 130, x.fresh());
        due("promise 9, again", 0, x.fresh());
        due("promise 10, on, and on", 1, x.current(true));
        due("promise 10, off", 1, x.current(false));
        due("promise 10, off, and off", 0, x.current(false));
        due("promise 10, on", 0, x.current(true));
        due("promise 11, not COVERED, FRESH", 0, x.cover(false));
        due("promise 11, COVERED", 0, x.cover(true));
        due("promise 11, COVERED twice", 1, x.cover(true));
        due("promise 11, not COVERED", 1, x.cover(false));
        bounds("promise 12, put s", UNKNOWN, 0, 2, (y, s) -> y.put(s, 0, 1, 0, 0));
        bounds("promise 12, put w", OUTSIDE, -3000, 9000, (y, w) -> y.put(0, w, 1, 0, 0));
        bounds("promise 12, put c", OUTSIDE, 1, 200, (y, c) -> y.put(0, 0, c, 0, 0));
        bounds("promise 12, put low", OUTSIDE, -3000, 9000, (y, low) -> y.put(0, 0, 1, low, 9000));
        bounds("promise 12, put high", OUTSIDE, -3000, 9000, (y, high) -> y.put(0, 0, 1, -3000, high));
        bounds("promise 12, put high, low", OUTSIDE, 5, 9000, (y, high) -> y.put(0, 0, 1, 5, high));
        bounds("promise 12, put low, high", OUTSIDE, -3000, 5, (y, low) -> y.put(0, 0, 1, low, 5));
        due("promise 12, the least that is not there", 1, rich().put(0, 0, 1, 0, 0));
        for (int f = 0; f < 8; f++) {
            x = eight();
            due("promise 12, FULL", FULL, x.put(0, 0, 1, 0, 0));
            due("promise 12, FULL: nothing is PUT", 8 * 500, x.heat(2));
            due("promise 12, FULL: FOODS", 8, x.count(10));
            due("promise 13, TAKEN", 500, x.take(f));
            due("promise 13, TAKEN already", UNKNOWN, x.take(f));
            due("promise 14, TAKEN already", UNKNOWN, x.lay(f, 0));
            due("promise 15, TAKEN already", UNKNOWN, x.food(f, 0));
            due("promise 13, FOODS", 7, x.count(10));
            due("promise 12, its number again", f, x.put(2, 1, 1, 1, 1));
            due("promise 12, FULL again", FULL, x.put(0, 0, 1, 0, 0));
        }
        for (int f : NO_FOODS) {
            refused("promise 13, take " + f, UNKNOWN, y -> y.take(f));
            refused("promise 14, lay " + f, UNKNOWN, y -> y.lay(f, 0));
            refused("promise 15, food " + f, UNKNOWN, y -> y.food(f, 0));
        }
        bounds("promise 14, lay s", UNKNOWN, 0, 2, (y, s) -> y.lay(0, s));
        due("promise 14, where it lies already", 1, rich().lay(0, 1));
        bounds("promise 15, food what", OUTSIDE, 0, 5, (y, what) -> y.food(0, what));
        int[][] spans = {{500, 500, 1}, {501, 501, 0}, {499, 499, 0}, {499, 501, 1}, {500, 9000, 1}, {-3000, 500, 1},
            {501, 9000, 0}, {-3000, 499, 0}};
        for (int[] span : spans) {
            x = new ColdBox();
            x.put(0, 500, 7, span[0], span[1]);
            due("promise 15, 500 within " + span[0] + " to " + span[1], span[2], x.food(0, 5));
        }
    }

    private static ColdBox eight() {
        ColdBox x = still("");
        for (int f = 0; f < 8; f++) due("promise 12, put", f, x.put(f % 3, 500, 1, 500, 500));
        return x;
    }

    private static void promises16To21() {
        bounds("promise 16, run", OUTSIDE, 1, 2880, ColdBox::run);
        ColdBox x = still("on 50;");
        due("promise 16, on in all", 2880, x.run(2880));
        due("promise 16, TICKS", 2880, x.count(0));
        due("promise 16, on in one", 1, x.run(1));
        due("promise 16, on in none", 0, still("on 51;").run(2880));
        bounds("promise 17, drawn n", OUTSIDE, 1, 10, (y, n) -> y.drawn(n, 20));
        bounds("promise 17, drawn m", OUTSIDE, 0, 20, (y, m) -> y.drawn(1, m));
        bounds("promise 18, warmth", UNKNOWN, 0, 3, ColdBox::warmth);
        bounds("promise 19, heat", OUTSIDE, 0, 5, ColdBox::heat);
        bounds("promise 20, count", OUTSIDE, 0, 11, ColdBox::count);
        // 19: of all CELLS together, FOODS, too, those only that are there.
        x = still("");
        due("promise 19, no FOODS", 3 * 10000 - 40000, x.heat(0));
        x.put(0, 9000, 200, 0, 0);
        x.put(0, -3000, 200, 0, 0);
        due("promise 19, FOODS", -10000 + 6000 * 200, x.heat(0));
        due("promise 19, PUT", 6000 * 200, x.heat(2));
        x.take(0);
        due("promise 19, one TAKEN", -10000 - 3000 * 200, x.heat(0));
        due("promise 19, TAKEN", 9000 * 200, x.heat(5));
        x.take(1);
        due("promise 19, all TAKEN", -10000, x.heat(0));
        due("promise 19, TAKEN", 6000 * 200, x.heat(5));
        due("promise 19, PUT stays", 6000 * 200, x.heat(2));
        // 21: "to a WARMTH of 1000, if it is less": 999 and 1000.
        x = made("wall 1;seal 0;mix 0;cold 0;room 80;on 200;", "");
        due("promise 21, no FUR", 0, x.thaw());
        due("promise 21, came IN", 3 * 10000 + 80000, x.heat(1));
        due("promise 21, no FUR again", 0, x.thaw());
        due("promise 21, 1000 is not less", 3 * 10000 + 80000, x.heat(1));
        x.run(1);
        for (int s = 0; s < 3; s++) due("promise 21, AIR of HEAT 19998", 999, x.warmth(s));
        x.thaw();
        due("promise 21, 999 is less: what went comes IN", 3 * 10000 + 80000, x.heat(1));
        due("promise 21, all HEAT", 3 * 20000 + 40000, x.heat(0));
        x = made("wall 0;seal 0;mix 0;cold 0;room 80;on 200;lamp 3;", "");
        x.thaw();
        x.trouble(32);
        x.run(1);
        x.thaw();
        due("promise 21, HEAT of 20015 stays", 3 * 20000 + 40000 + 15, x.heat(0));
        x = ofFur(9999);
        due("promise 21, FUR of 9999", 9999, x.thaw());
        due("promise 21, DRAINED", 9999, x.count(6));
        due("promise 21, no TICK", x.count(0), x.fresh());
    }

    private static void promises22To31() {
        bounds("promise 22, sign set", UNKNOWN, 0, 127, (x, set) -> x.sign(set, 1, 0));
        bounds("promise 22, sign n", OUTSIDE, 1, 6, (x, n) -> x.sign(0, n, 0));
        bounds("promise 22, sign what", UNKNOWN, 0, 6, (x, what) -> x.sign(0, 1, what));
        bounds("promise 23, seen what", UNKNOWN, 0, 6, (x, what) -> x.seen(what, 0, 1));
        bounds("promise 23, seen v", OUTSIDE, -99999, 99999, (x, v) -> x.seen(0, v, 1));
        bounds("promise 23, seen e", OUTSIDE, 1, 999, (x, e) -> x.seen(0, 0, e));
        ColdBox x = new ColdBox();
        due("promise 24, none SEEN", 0, x.forget());
        for (int what = 6; what >= 0; what--) {
            due("promise 23, how many", 7 - what, x.seen(what, 0, 1));
            due("promise 23, SEEN again", 7 - what, x.seen(what, 1, 2));
        }
        due("promise 24, all SEEN", 7, x.forget());
        due("promise 24, none SEEN", 0, x.forget());
        bounds("promise 25, prior k", UNKNOWN, 0, 6, (y, k) -> y.prior(k, 0));
        bounds("promise 25, prior p", OUTSIDE, 0, 1000, (y, p) -> y.prior(0, p));
        bounds("promise 26, bother what", UNKNOWN, 0, 6, (y, what) -> y.bother(what, 0));
        bounds("promise 26, bother b", OUTSIDE, 0, 999, (y, b) -> y.bother(0, b));
        for (int set = -2; set < 130; set++) {
            int s = set;
            boolean is = set >= 0 && set < 128 && Integer.bitCount(set) < 3;
            if (is) due("promise 27, odds " + set, 1, x.odds(set, 1) > 0 ? 1 : 0);
            else due("promise 27, odds " + set, UNKNOWN, x.odds(s, 1));
        }
        refused("promise 27, three TROUBLES", UNKNOWN, y -> y.odds(7, 1));
        refused("promise 27, three TROUBLES ahead of n", UNKNOWN, y -> y.odds(112, 0));
        refused("promise 27, LOW", UNKNOWN, y -> y.odds(LOW, 1));
        refused("promise 27, a bit of no TROUBLE", UNKNOWN, y -> y.odds(LOW + 1, 1));
        bounds("promise 27, odds n", OUTSIDE, 1, 6, (y, n) -> y.odds(3, n));
        bounds("promise 28, each k", UNKNOWN, 0, 6, (y, k) -> y.each(k, 1));
        bounds("promise 28, each n", OUTSIDE, 1, 6, (y, n) -> y.each(0, n));
        for (int k = 0; k < 7; k++) {
            long together = 0;
            for (int j = 0; j < 7; j++) together += x.odds(1 << k | 1 << j, 1);
            due("promise 28, ODDS of all SETS with it together", together, x.each(k, 1));
        }
        bounds("promise 29, tells what", UNKNOWN, 0, 6, (y, what) -> y.tells(what, 1));
        bounds("promise 29, tells n", OUTSIDE, 1, 6, (y, n) -> y.tells(0, n));
        bounds("promise 30, next n", OUTSIDE, 1, 6, ColdBox::next);
        x = new ColdBox();
        for (int what = 0; what < 7; what++) x.seen(what, 0, 1);
        due("promise 30, all are SEEN", NONE, x.next(1));
        due("promise 30, all are SEEN, n", OUTSIDE, x.next(0));
        bounds("promise 31, makes set", UNKNOWN, 0, 127, (y, set) -> y.makes(set, 0));
        bounds("promise 31, makes what", OUTSIDE, 0, 1, (y, what) -> y.makes(0, what));
    }

    private static void promises32To38() {
        bounds("promise 32, mending k", UNKNOWN, 0, 6, (x, k) -> x.mending(k, 0));
        bounds("promise 32, mending c", OUTSIDE, 0, 999, (x, c) -> x.mending(0, c));
        bounds("promise 33, price", OUTSIDE, 0, 999, ColdBox::price);
        bounds("promise 34, year", UNKNOWN, 0, 127, ColdBox::year);
        bounds("promise 35, saves set", UNKNOWN, 0, 127, (x, set) -> x.saves(set, 0));
        bounds("promise 35, saves part", UNKNOWN, 0, 127, (x, part) -> x.saves(127, part));
        for (int part : new int[] {1, 4, 15, 64, 127}) refused("promise 35, no part: " + part, NOT, x -> x.saves(2 + 8 + 16, part));
        bounds("promise 36, best set", UNKNOWN, 0, 127, (x, set) -> x.best(set, 0, 0));
        bounds("promise 36, best c", OUTSIDE, 0, 9999, (x, c) -> x.best(1, c, 0));
        bounds("promise 36, best what", OUTSIDE, 0, 2, (x, what) -> x.best(1, 0, what));
        bounds("promise 37, pays set", UNKNOWN, 0, 127, (x, set) -> x.pays(set, 0, 0));
        bounds("promise 37, pays c", OUTSIDE, 0, 99999, (x, c) -> x.pays(0, c, 0));
        bounds("promise 37, pays u", OUTSIDE, 0, 9999, (x, u) -> x.pays(0, 0, u));
        bounds("promise 38, ice set", UNKNOWN, 0, 127, (x, set) -> x.ice(set, 1, 0));
        bounds("promise 38, ice n", OUTSIDE, 1, 20, (x, n) -> x.ice(0, n, 0));
        bounds("promise 38, ice b", OUTSIDE, 0, 999, (x, b) -> x.ice(0, 2, b));
        refused("promise 36, UNKNOWN ahead of OUTSIDE", UNKNOWN, x -> x.best(128, 10000, 3));
        refused("promise 37, UNKNOWN ahead of OUTSIDE", UNKNOWN, x -> x.pays(-1, -1, -1));
        refused("promise 38, UNKNOWN ahead of OUTSIDE", UNKNOWN, x -> x.ice(128, 0, -1));
        refused("promise 32, UNKNOWN ahead of OUTSIDE", UNKNOWN, x -> x.mending(7, 1000));
        refused("promise 31, UNKNOWN ahead of OUTSIDE", UNKNOWN, x -> x.makes(128, 2));
        refused("promise 25, UNKNOWN ahead of OUTSIDE", UNKNOWN, x -> x.prior(7, 1001));
        refused("promise 26, UNKNOWN ahead of OUTSIDE", UNKNOWN, x -> x.bother(7, 1000));
        refused("promise 28, UNKNOWN ahead of OUTSIDE", UNKNOWN, x -> x.each(7, 7));
        refused("promise 29, UNKNOWN ahead of OUTSIDE", UNKNOWN, x -> x.tells(7, 7));
        refused("promise 23, UNKNOWN ahead of OUTSIDE", UNKNOWN, x -> x.seen(7, 100000, 0));
    }

    private static void promises39To46() {
        for (int f : NO_FOODS) {
            if (f != NONE) refused("promise 39, lying " + f, UNKNOWN, x -> x.lying(f));
            refused("promise 41, without " + f, UNKNOWN, x -> x.without(f));
        }
        ColdBox seven = still("");
        for (int f = 0; f < 7; f++) seven.put(0, 500, 1, 0, 0);
        due("promise 39, seven FOODS", NOT, seven.lying(NONE));
        due("promise 39, seven FOODS, one of them", NOT, seven.lying(0));
        due("promise 39, seven FOODS, another", UNKNOWN, seven.lying(7));
        due("promise 40, seven FOODS", 0, seven.bulb(0));
        due("promise 41, seven FOODS", 0, seven.without(6));
        bounds("promise 40, bulb", OUTSIDE, 0, 1, ColdBox::bulb);
        for (int a : new int[] {-2, 24, 25, LOW, HIGH}) refused("promise 42, cheap a " + a, OUTSIDE, x -> x.cheap(a, 24, 0));
        for (int a : new int[] {NONE, 0, 23}) due("promise 42, cheap a " + a, 1, rich().cheap(a, 24, 0));
        bounds("promise 42, cheap b", OUTSIDE, 1, 24, (x, b) -> x.cheap(0, b, 0));
        bounds("promise 42, cheap b above a", OUTSIDE, 13, 24, (x, b) -> x.cheap(12, b, 0));
        bounds("promise 42, cheap v", OUTSIDE, 0, 999, (x, v) -> x.cheap(0, 24, v));
        bounds("promise 42, cheap v, none", OUTSIDE, 0, 999, (x, v) -> x.cheap(NONE, 24, v));
        refused("promise 42, cheap from 24", OUTSIDE, x -> x.cheap(24, 24, 0));
        bounds("promise 43, store n", OUTSIDE, 1, 6, (x, n) -> x.store(n, 0));
        bounds("promise 43, store what", OUTSIDE, 0, 1, (x, what) -> x.store(1, what));
        bounds("promise 44, seed", OUTSIDE, 0, HIGH, ColdBox::seed);
        bounds("promise 45, keep", UNKNOWN, 0, 1, ColdBox::keep);
        for (int i : new int[] {-1, 2, LOW, HIGH}) refused("promise 46, goBack " + i, UNKNOWN, x -> x.goBack(i));
        refused("promise 46, it was not kept", NOT, x -> x.goBack(1));
        due("promise 46, it was kept", 1, rich().goBack(0));
    }
}
