/**
 * Promises 22 to 43: signs, odds, mending, the ice, lying, the bulb, without current, the store. What is due comes
 * from the plain calls (run, thaw, lay, ..) of a second object, or is reckoned by hand.
 */
public final class PlanTest {
    private static final int NONE = -1, UNKNOWN = -1000000001, OUTSIDE = -1000000002, NOT = -1000000003;
    private static final String LEAKY = "power 700; seal 6; use 7; lamp 9; stove 6 9 30; on 60;";
    private static final String OPENED = "open 20 3; open 150 10; open 280 20;";
    private static int wrong = 0;
    private static int asked = 0;

    public static void main(String[] args) {
        signs();
        signsFromAnyState();
        allSignsAtOnce();
        firstAsked();
        seenAndForgotten();
        priorsAndBothers();
        oddsUnseen();
        oddsSeen();
        oddsByHand();
        eachTrouble();
        telling();
        tellingByHand();
        nextSign();
        making();
        makingRefused();
        mendingAndPrice();
        years();
        saving();
        bestMending();
        paying();
        ice();
        iceWhereItTurns();
        iceByHand();
        lyingRefused();
        lying();
        lyingGoesOnFromNow();
        bulb();
        without();
        withoutByHand();
        cheapRefused();
        store();
        storeByHand();
        nothingChanges();
        System.out.println("PlanTest: " + asked + " answers, " + wrong + " wrong");
        if (wrong != 0) System.exit(1);
    }

    private static void due(String what, long want, long got) {
        asked++;
        if (got != want) {
            wrong++;
            System.out.println(what + " answered " + got + ", due is " + want);
        }
    }

    private static ColdBox made(String box, String day) {
        ColdBox x = new ColdBox();
        box(x, box);
        tell(x, day);
        if (x.day() < 0) throw new IllegalStateException(day);
        return x;
    }

    private static void box(ColdBox x, String text) {
        tell(x, text);
        if (x.box() < 0) throw new IllegalStateException(text);
    }

    private static void tell(ColdBox x, String text) {
        for (int i = 0; i < text.length(); i += 8) {
            int n = Math.min(8, text.length() - i);
            long bytes = 0;
            for (int k = 0; k < n; k++) bytes = bytes << 8 | text.charAt(i + k);
            x.feed(n, bytes);
        }
    }

    /** The SIGNS of the last of n DAYS by plain runs. */
    private static int[] signsByRuns(ColdBox x, int set, int n) {
        x.current(true);
        x.trouble(set);
        x.fresh();
        if (n > 1) x.run((n - 1) * 288);
        int starts = x.count(2);
        int used = x.count(1);
        int on = x.run(288);
        return new int[] {on, x.count(2) - starts, x.warmth(0), x.warmth(1), x.warmth(2), x.count(5), x.count(1) - used};
    }

    private static void signs() {
        ColdBox x = made(LEAKY, OPENED);
        due("set 128", UNKNOWN, x.sign(128, 1, 0));
        due("set -1", UNKNOWN, x.sign(-1, 9, 0));
        due("sign 7", UNKNOWN, x.sign(0, 0, 7));
        due("sign -1", UNKNOWN, x.sign(0, 1, -1));
        due("n 0", OUTSIDE, x.sign(0, 0, 0));
        due("n 7", OUTSIDE, x.sign(0, 7, 0));
        for (int set = 0; set < 128; set += 7) {
            x = made(LEAKY, OPENED);
            ColdBox y = made(LEAKY, OPENED);
            for (int n = 6; n >= 1; n -= 2) {
                int[] due = signsByRuns(y, set, n);
                for (int what = 0; what < 7; what++) due("sign " + set + ", " + n + ", " + what, due[what], x.sign(set, n, what));
                int[] less = signsByRuns(y, set, n - 1 < 1 ? 1 : n - 1);
                for (int what = 0; what < 7; what++) {
                    due("sign, less " + set + ", " + n, less[what], x.sign(set, n - 1 < 1 ? 1 : n - 1, what));
                }
            }
        }
    }

    /** SIGNS are of FRESH with current, whatever is so; another BOX or DAY makes them others. */
    private static void signsFromAnyState() {
        ColdBox x = made(LEAKY, OPENED);
        int[] before = new int[7];
        for (int what = 0; what < 7; what++) before[what] = x.sign(5, 3, what);
        x.trouble(98);
        x.put(0, 5000, 100, 0, 1);
        x.cover(true);
        x.run(77);
        x.current(false);
        for (int what = 0; what < 7; what++) due("sign of any state", before[what], x.sign(5, 3, what));
        box(x, "power 300;");
        ColdBox y = made("power 300;", OPENED);
        int[] other = signsByRuns(y, 5, 3);
        for (int what = 0; what < 7; what++) due("sign of another BOX", other[what], x.sign(5, 3, what));
        x.day();
        other = signsByRuns(made("power 300;", ""), 5, 3);
        for (int what = 0; what < 7; what++) due("sign of another DAY", other[what], x.sign(5, 3, what));
        x.feed(1, 'x');
        x.box();
        for (int what = 0; what < 7; what++) due("sign, a FAULT", other[what], x.sign(5, 3, what));
    }

    /** SIGNS that are asked after all SETS were: each SET has its own. */
    private static void allSignsAtOnce() {
        ColdBox x = new ColdBox();
        for (int n = 1; n <= 6; n++) {
            x = made(LEAKY, OPENED);
            for (int set = 0; set < 128; set++) x.sign(set, 7 - n, 0);
            for (int set = 0; set < 128; set += 3) {
                int[] due = signsByRuns(made(LEAKY, OPENED), set, n);
                for (int what = 0; what < 7; what++) due("all signs " + set + ", " + n, due[what], x.sign(set, n, what));
            }
        }
        box(x, "power 300;");
        int[] other = signsByRuns(made("power 300;", OPENED), 0, 1);
        for (int what = 0; what < 7; what++) due("one DAY of another BOX", other[what], x.sign(0, 1, what));
    }

    /** Each call answers the same, whatever was asked before. */
    private static void firstAsked() {
        ColdBox x = made(LEAKY, OPENED);
        for (int set = 0; set < 128; set++) x.sign(set, 6, 0);
        due("odds first", x.odds(6, 3), made(LEAKY, OPENED).odds(6, 3));
        due("each first", x.each(6, 3), made(LEAKY, OPENED).each(6, 3));
        due("tells first", x.tells(4, 3), made(LEAKY, OPENED).tells(4, 3));
        x.bother(0, 500);
        ColdBox y = made(LEAKY, OPENED);
        y.bother(0, 500);
        due("next first", x.next(3), y.next(3));
        due("year first", x.year(33), made(LEAKY, OPENED).year(33));
        due("saves first", x.saves(127, 32), made(LEAKY, OPENED).saves(127, 32));
        due("best first", x.best(127, 100, 0), made(LEAKY, OPENED).best(127, 100, 0));
        due("best first, saves", x.best(127, 100, 1), made(LEAKY, OPENED).best(127, 100, 1));
        due("pays first", x.pays(127, 90000, 50), made(LEAKY, OPENED).pays(127, 90000, 50));
        int v = x.sign(2, 2, 5);
        y = made(LEAKY, OPENED);
        y.seen(5, v, 400);
        x.seen(5, v, 400);
        due("odds first, by SIGNS", x.odds(2, 2), y.odds(2, 2));
        y = made(LEAKY, OPENED);
        y.seen(5, v, 400);
        due("each first, by SIGNS", x.each(1, 2), y.each(1, 2));
    }

    private static void seenAndForgotten() {
        ColdBox x = new ColdBox();
        due("sign 7", UNKNOWN, x.seen(7, 100000, 0));
        due("sign -1", UNKNOWN, x.seen(-1, 0, 1));
        due("v above", OUTSIDE, x.seen(0, 100000, 1));
        due("v below", OUTSIDE, x.seen(0, -100000, 1));
        due("e 0", OUTSIDE, x.seen(0, 0, 0));
        due("e 1000", OUTSIDE, x.seen(0, 0, 1000));
        due("none", 0, x.forget());
        due("one", 1, x.seen(3, -99999, 1));
        due("the same", 1, x.seen(3, 99999, 999));
        due("two", 2, x.seen(0, 0, 1));
        due("forget", 2, x.forget());
        due("forget again", 0, x.forget());
        due("one again", 1, x.seen(6, 0, 1));
    }

    private static void priorsAndBothers() {
        ColdBox x = new ColdBox();
        due("prior 7", UNKNOWN, x.prior(7, 1001));
        due("prior -1", UNKNOWN, x.prior(-1, 5));
        due("p 1001", OUTSIDE, x.prior(0, 1001));
        due("p -1", OUTSIDE, x.prior(0, -1));
        for (int k = 0; k < 7; k++) due("prior", 100, x.prior(k, k * 100));
        for (int k = 0; k < 7; k++) due("prior was", k * 100, x.prior(k, 1000));
        due("prior 1000", 1000, x.prior(6, 0));
        due("bother 7", UNKNOWN, x.bother(7, 1000));
        due("bother -1", UNKNOWN, x.bother(-1, 5));
        due("b 1000", OUTSIDE, x.bother(0, 1000));
        due("b -1", OUTSIDE, x.bother(0, -1));
        for (int what = 0; what < 7; what++) due("bother", 0, x.bother(what, 999 - what));
        for (int what = 0; what < 7; what++) due("bother was", 999 - what, x.bother(what, 0));
    }

    /** What was SEEN, the PRIORS and BOTHERS of a test, and what is due by them. */
    private static final class Model {
        final ColdBox x;
        final int[][] shown = new int[128][7];
        final int n;
        final boolean[] seen = new boolean[7];
        final int[] v = new int[7];
        final int[] e = {50, 50, 50, 50, 50, 50, 50};
        final int[] priors = {100, 100, 100, 100, 100, 100, 100};
        final int[] bothers = new int[7];

        Model(ColdBox x, String box, String day, int n) {
            this.x = x;
            this.n = n;
            for (int set = 0; set < 128; set++) shown[set] = signsByRuns(made(box, day), set, n);
        }

        void see(int what, int value, int exact) {
            seen[what] = true;
            v[what] = value;
            e[what] = exact;
            x.seen(what, value, exact);
        }

        void prior(int k, int p) {
            priors[k] = p;
            x.prior(k, p);
        }

        void bother(int what, int b) {
            bothers[what] = b;
            x.bother(what, b);
        }

        long weight(int set) {
            if (Integer.bitCount(set) > 2) return 0;
            long w = 1000000;
            for (int k = 0; k < 7; k++) {
                boolean in = (set & 1 << k) > 0;
                w = w * (in ? priors[k] : 1000 - priors[k]) / 1000;
            }
            for (int what = 0; what < 7; what++) {
                if (!seen[what]) continue;
                int far = Math.abs(v[what] - shown[set][what]);
                for (int i = 0; i < 20 && far >= e[what]; i++) {
                    w /= 2;
                    far -= e[what];
                }
            }
            return w;
        }

        long all() {
            long sum = 0;
            for (int set = 0; set < 128; set++) sum += weight(set);
            return sum;
        }

        long odds(int set) {
            long all = all();
            return all == 0 ? 0 : 1000000 * weight(set) / all;
        }

        long each(int k) {
            long sum = 0;
            for (int set = 0; set < 128; set++) {
                if ((set & 1 << k) != 0) sum += odds(set);
            }
            return sum;
        }

        long tells(int what) {
            java.util.Map<Integer, Long> classes = new java.util.TreeMap<>();
            for (int set = 0; set < 128; set++) {
                if (Integer.bitCount(set) <= 2) classes.merge(shown[set][what] / e[what], weight(set), Long::sum);
            }
            long all = all();
            if (all == 0) return 0;
            long squares = 0;
            for (long w : classes.values()) squares += w * w;
            return 1000 - 1000 * squares / (all * all);
        }

        int next() {
            int found = NONE;
            for (int what = 6; what >= 0; what--) {
                if (seen[what]) continue;
                if (found == NONE || tells(what) - bothers[what] >= tells(found) - bothers[found]) found = what;
            }
            return found;
        }

        void check(String name) {
            for (int set = 0; set < 128; set++) {
                if (Integer.bitCount(set) <= 2) due(name + ": odds " + set, odds(set), x.odds(set, n));
            }
            for (int k = 0; k < 7; k++) due(name + ": each " + k, each(k), x.each(k, n));
            for (int what = 0; what < 7; what++) due(name + ": tells " + what, tells(what), x.tells(what, n));
            due(name + ": next", next(), x.next(n));
        }
    }

    private static void oddsUnseen() {
        ColdBox x = made(LEAKY, OPENED);
        due("odds 7", UNKNOWN, x.odds(7, 1));
        due("odds 7, n 9", UNKNOWN, x.odds(7, 9));
        due("odds 128", UNKNOWN, x.odds(128, 1));
        due("odds -1", UNKNOWN, x.odds(-1, 1));
        due("odds n 0", OUTSIDE, x.odds(3, 0));
        due("odds n 7", OUTSIDE, x.odds(3, 7));
        new Model(x, LEAKY, OPENED, 2).check("unseen");
        // Nine tenths for each of seven, a tenth in place of one for each that is there: 81 to 9 to 1.
        due("odds of none", 1000 * 81 / (81 + 7 * 9 + 21), x.odds(0, 1) / 1000);
        due("odds of one", 1000 * 9 / (81 + 7 * 9 + 21), x.odds(64, 1) / 1000);
        due("odds of two", 1000 / (81 + 7 * 9 + 21), x.odds(96, 1) / 1000);
    }

    private static void oddsSeen() {
        ColdBox x = made(LEAKY, OPENED);
        Model m = new Model(x, LEAKY, OPENED, 3);
        m.see(5, x.sign(20, 3, 5) + 3, 40);
        m.check("one seen");
        m.see(2, x.sign(20, 3, 2) - 30, 15);
        m.prior(4, 333);
        m.prior(0, 1);
        m.check("two seen");
        m.see(5, -5000, 999);
        m.bother(3, 800);
        m.check("seen anew");
        m.prior(6, 1000);
        m.prior(5, 0);
        m.check("sure priors");
        m.see(0, 99999, 1);
        m.check("far off");
        m.prior(0, 1000);
        m.prior(1, 1000);
        m.check("no weight");
        for (int what = 0; what < 7; what++) m.see(what, 100 * what, 20);
        m.check("all seen");
        due("next, all seen", NONE, x.next(6));
        due("next, all seen, n", OUTSIDE, x.next(7));
    }

    private static void oddsByHand() {
        String text = "power 951; wall 4; seal 2; cold 57; on 63; off 24; mix 49;";
        ColdBox y = made(text, "");
        Model m = new Model(y, text, "", 1);
        due("TICKS on are not alike", 1, y.sign(0, 1, 0) != y.sign(64, 1, 0) ? 1 : 0);
        m.see(0, y.sign(64, 1, 0), 20);
        m.check("TICKS on are seen");
        ColdBox x = new ColdBox();
        for (int k = 0; k < 7; k++) x.prior(k, 0);
        due("sure of none", 1000000, x.odds(0, 1));
        x.prior(3, 500);
        due("half, none", 500000, x.odds(0, 1));
        due("half, one", 500000, x.odds(8, 1));
        due("half, each", 500000, x.each(3, 1));
        due("other", 0, x.each(2, 1));
        int shown = x.sign(8, 1, 2);
        int none = x.sign(0, 1, 2);
        x.seen(2, shown, 999);
        due("too wide to tell", 1, Math.abs(shown - none) < 999 ? 1 : 0);
        due("still half", 500000, x.odds(8, 1));
        int d = Math.abs(shown - none);
        x.seen(2, shown, d);
        due("halved once", 1000000L * 500000 / 750000, x.odds(8, 1));
        x.seen(2, shown, d + 1);
        due("not halved", 500000, x.odds(8, 1));
        x.seen(2, shown, (d + 1) / 2);
        due("by cut halves", 1000000L * 500000 / (500000 + (500000 >> d / ((d + 1) / 2))), x.odds(8, 1));
        x.prior(3, 1000);
        x.prior(2, 1000);
        x.prior(1, 1000);
        due("three sure: no weight", 0, x.odds(6, 1));
        due("three sure: tells", 0, x.tells(0, 1));
    }

    private static void eachTrouble() {
        ColdBox x = new ColdBox();
        due("each 7", UNKNOWN, x.each(7, 0));
        due("each -1", UNKNOWN, x.each(-1, 1));
        due("each n 0", OUTSIDE, x.each(0, 0));
        due("each n 7", OUTSIDE, x.each(6, 7));
    }

    private static void telling() {
        ColdBox x = new ColdBox();
        due("tells 7", UNKNOWN, x.tells(7, 0));
        due("tells -1", UNKNOWN, x.tells(-1, 1));
        due("tells n 0", OUTSIDE, x.tells(0, 0));
        due("tells n 7", OUTSIDE, x.tells(6, 7));
    }

    private static void tellingByHand() {
        ColdBox x = new ColdBox();
        for (int k = 0; k < 7; k++) x.prior(k, 0);
        due("one class", 0, x.tells(2, 1));
        x.prior(1, 500);
        due("other by fur", 1, x.sign(2, 1, 5) / 50 != x.sign(0, 1, 5) / 50 ? 1 : 0);
        due("two like classes", 500, x.tells(5, 1));
        x.seen(5, x.sign(2, 1, 5), 999);
        due("SEEN, by its E", x.sign(2, 1, 5) / 999 == x.sign(0, 1, 5) / 999 ? 0 : 500, x.tells(5, 1));
        x.forget();
        due("forgotten, by 50", 500, x.tells(5, 1));
        x.prior(1, 250);
        due("a quarter", 1000 - 1000 * (9 + 1) / 16, x.tells(5, 1));
    }

    private static void nextSign() {
        ColdBox x = new ColdBox();
        due("next n 0", OUTSIDE, x.next(0));
        due("next n 7", OUTSIDE, x.next(7));
        for (int k = 0; k < 7; k++) x.prior(k, 0);
        due("of like ones the least", 0, x.next(1));
        x.seen(0, 0, 1);
        due("not SEEN", 1, x.next(1));
        x.bother(1, 1);
        due("less its BOTHER", 2, x.next(1));
        for (int what = 0; what < 7; what++) x.bother(what, 999 - what);
        due("below 0, too", 6, x.next(1));
    }

    private static void making() {
        for (int current = 1; current >= 0; current--) {
            ColdBox x = made("seal 1; room 160;", OPENED);
            for (int set = 0; set < 128; set += 5) {
                ColdBox y = made("seal 1; room 160;", OPENED);
                y.trouble(set);
                y.fresh();
                y.current(current == 1);
                int fur = NONE, on = NONE;
                for (int d = 1; d <= 30; d++) {
                    int ticks = y.run(288);
                    if (fur == NONE && y.count(5) >= 600) fur = d;
                    if (on == NONE && ticks == 288) on = d;
                }
                x.current(current == 1);
                due("makes fur " + set, fur, x.makes(set, 0));
                due("makes on " + set, on, x.makes(set, 1));
            }
        }
        ColdBox x = made("power 999; seal 0; cold 20; on 5; off 0;", "open 0 1;");
        due("20 a DAY", 30, x.makes(0, 0));
        due("FUR then", 600, lastFur(x, 0, 30));
        x = made("power 999; wall 1; seal 0; mix 0; cold 20; on 75; off 0; lamp 30;", "open 287 1;");
        due("FUR a DAY later", 600, lastFur(x, 32, 31));
        due("too late", NONE, x.makes(32, 0));
        x = made("seal 0; on 200;", "");
        due("never fur", NONE, x.makes(0, 0));
        due("never on", NONE, x.makes(0, 1));
        due("FURRED, and all drains", NONE, x.makes(2, 0));
        due("FURRED at once", 1, new ColdBox().makes(2, 0));
        due("STUCK at once", 1, x.makes(16, 1));
    }

    private static int lastFur(ColdBox x, int set, int n) {
        x.trouble(set);
        x.fresh();
        for (int d = 0; d < n; d++) x.run(288);
        return x.count(5);
    }

    private static void makingRefused() {
        ColdBox x = new ColdBox();
        due("makes 128", UNKNOWN, x.makes(128, 2));
        due("makes -1", UNKNOWN, x.makes(-1, 0));
        due("makes what 2", OUTSIDE, x.makes(0, 2));
        due("makes what -1", OUTSIDE, x.makes(0, -1));
    }

    private static void mendingAndPrice() {
        ColdBox x = new ColdBox();
        due("mending 7", UNKNOWN, x.mending(7, 1000));
        due("mending -1", UNKNOWN, x.mending(-1, 0));
        due("c 1000", OUTSIDE, x.mending(0, 1000));
        due("c -1", OUTSIDE, x.mending(0, -1));
        for (int k = 0; k < 7; k++) due("mending", 50, x.mending(k, 999 - k));
        for (int k = 0; k < 7; k++) due("mending was", 999 - k, x.mending(k, 0));
        due("price 1000", OUTSIDE, x.price(1000));
        due("price -1", OUTSIDE, x.price(-1));
        due("price", 30, x.price(999));
        due("price was", 999, x.price(0));
        due("price 0", 0, x.year(16));
    }

    private static void years() {
        ColdBox x = made("use 99; lamp 99;", OPENED);
        due("year 128", UNKNOWN, x.year(128));
        due("year -1", UNKNOWN, x.year(-1));
        int used = 288 * 198;
        x.price(999);
        due("STUCK, LIT", (long) used * 365 * 999 / 1000, x.year(48));
        x.price(1);
        for (int set = 0; set < 128; set += 11) due("year", x.sign(set, 2, 6) * 365 / 1000, x.year(set));
        ColdBox y = made("power 951; wall 4; seal 2; cold 57; on 63; off 24; mix 49;", "");
        due("DAYS are not alike", 1, y.sign(0, 1, 6) != y.sign(0, 2, 6) && y.sign(0, 2, 6) != y.sign(0, 3, 6) ? 1 : 0);
        due("the second DAY", y.sign(0, 2, 6) * 365L * 30 / 1000, y.year(0));
        x.current(false);
        due("FRESH leaves the current as it is", 0, x.year(48));
        due("saves without current", 0, x.saves(48, 16));
    }

    private static void saving() {
        ColdBox x = made(LEAKY, OPENED);
        due("saves 128", UNKNOWN, x.saves(128, 0));
        due("saves part 128", UNKNOWN, x.saves(0, 128));
        due("saves part -1", UNKNOWN, x.saves(127, -1));
        due("no part", NOT, x.saves(5, 3));
        due("nothing mended", 0, x.saves(5, 0));
        for (int set = 1; set < 128; set += 6) {
            x = made(LEAKY, OPENED);
            for (int part = set; part > 0; part = (part - 1) & set) {
                due("saves " + set + ", " + part, x.year(set) - x.year(set - part), x.saves(set, part));
            }
        }
    }

    private static void bestMending() {
        ColdBox x = made("power 870; wall 4; seal 0; cold 78; on 184; off 163; mix 48;", "");
        due("either mends all", x.saves(65, 65), x.saves(65, 1));
        due("either mends all", x.saves(65, 65), x.saves(65, 64));
        due("of like ones the least SET", 1, x.best(65, 200, 0));
        x.mending(0, 51);
        due("of like ones the cheapest", 64, x.best(65, 200, 0));
        due("its cost", 50, x.best(65, 200, 2));
        x.mending(6, 0);
        x.mending(0, 0);
        due("both for nothing: the least SET", 1, x.best(65, 0, 0));
        bestMendingOf(LEAKY);
        bestMendingOf("power 999; wall 1; seal 0; cold 99; mix 99; on 80; off 60; lamp 20;");
        bestMendingOf("power 999; wall 3; seal 1; cold 80; mix 90; on 90; off 60; lamp 2; use 50;");
    }

    private static void bestMendingOf(String box) {
        ColdBox x = made(box, OPENED);
        due("best 128", UNKNOWN, x.best(128, -1, 3));
        due("best -1", UNKNOWN, x.best(-1, 0, 0));
        due("c -1", OUTSIDE, x.best(0, -1, 0));
        due("c 10000", OUTSIDE, x.best(0, 10000, 0));
        due("what 3", OUTSIDE, x.best(0, 0, 3));
        due("what -1", OUTSIDE, x.best(0, 0, -1));
        int[] costs = {70, 20, 999, 10, 0, 70, 20};
        int[] coins = {0, 10, 20, 29, 30, 70, 90, 100, 9999};
        int[] years = new int[128];
        for (int set = 0; set < 128; set++) years[set] = x.year(set);
        for (int set = 0; set < 128; set++) {
            x = made(box, OPENED);
            for (int k = 0; k < 7; k++) x.mending(k, costs[k]);
            for (int c : coins) {
                int found = 0;
                for (int part = 127; part >= 0; part--) {
                    if ((part & set) != part || cost(part, costs) > c) continue;
                    int better = years[set - found] - years[set - part];
                    int dearer = cost(part, costs) - cost(found, costs);
                    boolean like = better == 0 && dearer == 0;
                    if (better > 0 || better == 0 && dearer < 0 || like && part < found) found = part;
                }
                due("best of " + set + " for " + c, found, x.best(set, c, 0));
                due("best saves", years[set] - years[set - found], x.best(set, c, 1));
                due("best costs", cost(found, costs), x.best(set, c, 2));
            }
        }
    }

    private static int cost(int part, int[] costs) {
        int sum = 0;
        for (int k = 0; k < 7; k++) sum += (part >> k & 1) * costs[k];
        return sum;
    }

    private static void paying() {
        ColdBox x = made(LEAKY, OPENED);
        due("pays 128", UNKNOWN, x.pays(128, -1, 0));
        due("pays -1", UNKNOWN, x.pays(-1, 0, 0));
        due("c -1", OUTSIDE, x.pays(0, -1, 0));
        due("c 100000", OUTSIDE, x.pays(0, 100000, 0));
        due("u -1", OUTSIDE, x.pays(0, 0, -1));
        due("u 10000", OUTSIDE, x.pays(0, 0, 10000));
        due("bounds are within", 1, x.pays(0, 99999, 9999) >= NONE && x.pays(0, 0, 0) > 0 ? 1 : 0);
        due("for nothing", 1, x.pays(0, 0, x.sign(0, 2, 6)));
        due("uses as much", NONE, x.pays(0, 1, x.sign(0, 2, 6)));
        due("uses more", NONE, x.pays(0, 0, x.sign(0, 2, 6) + 1000));
        x.price(10);
        int year = x.year(48);
        for (int u = 0; u <= 9999; u += 303) {
            x = made(LEAKY, OPENED);
            x.price(10);
            int less = year - u * 365 * 10 / 1000;
            if (less <= 0) continue;
            for (int y = 1; y <= 30; y++) {
                if (y * less > 99999 || y * less + 1 > 99999) break;
                due("just pays", y, x.pays(48, y * less, u));
                due("a coin more", y == 30 ? NONE : y + 1, x.pays(48, y * less + 1, u));
            }
        }
    }

    private static int iceByRuns(String box, String day, int set, int n, int b, int price) {
        int found = 0;
        long least = Long.MAX_VALUE;
        for (int p = 0; p <= 20; p++) {
            ColdBox x = made(box, day);
            x.trouble(set);
            x.fresh();
            long bothers = 0;
            for (int d = 0; d < n; d++) {
                if (p > 0 && d > 0 && d % p == 0) {
                    x.thaw();
                    bothers += b;
                }
                x.run(288);
            }
            long cost = (long) x.count(1) * price / 1000 + bothers;
            if (cost < least) {
                least = cost;
                found = p;
            }
        }
        return found;
    }

    private static void ice() {
        String[] boxes = {"", LEAKY, "power 979; wall 0; seal 7; cold 60; on 105; off 66; mix 42;",
            "power 951; wall 4; seal 2; cold 57; on 63; off 24; mix 49;",
            "power 737; wall 4; seal 2; cold 37; on 88; off 56; mix 58;"};
        int[] found = new int[21];
        for (String text : boxes) {
            String opened = text.length() < 55 ? OPENED : "open 5 1;";
            ColdBox x = made(text, opened);
            x.price(999);
            for (int set = 0; set < 128; set += set < 4 ? 1 : 23) {
                for (int n = 1; n <= 20; n += set < 4 ? 1 : 6) {
                    int b = text.length() < 55 ? set % 4 * 10 : set * n % 7 * 30;
                    int want = iceByRuns(text, opened, set, n, b, 999);
                    found[want]++;
                    due("ice " + set + ", " + n + ", " + b, want, x.ice(set, n, b));
                }
            }
        }
        int often = 0;
        for (int p = 1; p <= 20; p++) often += found[p] > 0 ? 1 : 0;
        due("ice: some p are best", 1, found[0] > 0 && often > 1 ? 1 : 0);
    }

    /** At each bother at which another p becomes best, and one below it. */
    private static void iceWhereItTurns() {
        String text = "power 750; wall 2; seal 14; cold 46; on 122; off 118; mix 37; bulb 0;";
        int turns = 0;
        for (int price = 999; price > 0; price -= 333) {
            for (int n = 2; n <= 20; n += 3) {
                ColdBox x = made(text, "");
                x.price(price);
                long[] costs = new long[21];
                for (int p = 0; p <= 20; p++) costs[p] = (long) usedThawing(made(text, ""), n, p) * price / 1000;
                int former = -1;
                for (int b = 0; b <= 999; b++) {
                    int best = 0;
                    for (int p = 1; p <= 20; p++) {
                        if (costs[p] + b * timesOf(n, p) < costs[best] + b * timesOf(n, best)) best = p;
                    }
                    if (best != former) {
                        if (b > 0) due("ice ahead of " + b + ", n " + n, former, x.ice(0, n, b - 1));
                        due("ice at " + b + ", n " + n, best, x.ice(0, n, b));
                        turns++;
                    }
                    former = best;
                }
            }
        }
        due("ice turns often", 1, turns > 40 ? 1 : 0);
    }

    private static int usedThawing(ColdBox x, int n, int p) {
        for (int d = 0; d < n; d++) {
            if (p > 0 && d > 0 && d % p == 0) x.thaw();
            x.run(288);
        }
        return x.count(1);
    }

    private static long timesOf(int n, int p) {
        long times = 0;
        for (int d = 1; d < n; d++) {
            if (p > 0 && d % p == 0) times++;
        }
        return times;
    }

    private static void iceByHand() {
        ColdBox x = new ColdBox();
        due("ice 128", UNKNOWN, x.ice(128, 0, 0));
        due("ice -1", UNKNOWN, x.ice(-1, 1, 0));
        due("n 0", OUTSIDE, x.ice(0, 0, 0));
        due("n 21", OUTSIDE, x.ice(0, 21, 0));
        due("b -1", OUTSIDE, x.ice(0, 1, -1));
        due("b 1000", OUTSIDE, x.ice(0, 1, 1000));
        due("b 999", 0, x.ice(0, 1, 999));
        due("one DAY: never", 0, x.ice(127, 1, 0));
        due("STUCK: all alike", 0, x.ice(16, 20, 0));
        x.price(0);
        due("no PRICE: never", 0, x.ice(2, 20, 0));
    }

    private static ColdBox larder(String box) {
        ColdBox x = made(box, OPENED);
        x.put(1, 1500, 60, 300, 700);
        x.put(0, 400, 30, 0, 350);
        x.put(2, 300, 20, 500, 900);
        x.put(2, -200, 90, -400, 250);
        x.take(1);
        x.run(100);
        return x;
    }

    /** How many of larder()'s FOODS are within their spans on the second DAY; each object sees 72 of its TICKS. */
    private static int withinByRuns(java.util.function.Supplier<ColdBox> larder, int[] row) {
        int sum = 0;
        for (int from = 0; from < 288; from += 72) {
            ColdBox x = larder.get();
            for (int i = 0; i < 3 && row != null; i++) x.lay(i > 0 ? i + 1 : 0, row[i]);
            x.run(288 + from);
            for (int t = 0; t < 72; t++) {
                x.run(1);
                for (int f = 0; f < 4; f++) sum += Math.max(0, x.food(f, 5));
            }
        }
        return sum;
    }

    private static void lyingRefused() {
        ColdBox x = new ColdBox();
        due("nothing lies", 0, x.lying(NONE));
        due("food 0", UNKNOWN, x.lying(0));
        due("food -2", UNKNOWN, x.lying(-2));
        due("food 8", UNKNOWN, x.lying(8));
        for (int f = 0; f < 7; f++) x.put(0, 0, 1, 0, 0);
        due("seven", NOT, x.lying(NONE));
        due("seven, one of them", NOT, x.lying(6));
        due("seven, another", UNKNOWN, x.lying(7));
        x.take(0);
        due("six", 1, x.lying(NONE) >= 0 ? 1 : 0);
        due("taken", UNKNOWN, x.lying(0));
        x = made("mix 5;", "");
        for (int f = 0; f < 8; f++) x.put(0, 500, 10, -3000, 9000);
        for (int f = 0; f < 7; f++) x.take(f);
        due("FOOD 7 alone", 0, x.lying(7));
        x.take(7);
        for (int f = 0; f < 8; f++) x.put(1, 1500, 10, 1100, 9000);
        for (int f = 0; f < 7; f++) x.take(f);
        due("FOOD 7 lies best on the warmest", 2, x.lying(7));
    }

    private static void lying() {
        String[] boxes = {"", LEAKY, "cold 99; mix 10; on 60; off 20;", "power 600; bulb 0; mix 90; food 60;"};
        for (String text : boxes) {
            ColdBox x = larder(text);
            x.cover(true);
            int most = -1;
            int[] best = null;
            for (int r = 0; r < 27; r++) {
                int[] row = {r / 9, r / 3 % 3, r % 3};
                int within = withinByRuns(() -> {
                    ColdBox y = larder(text);
                    y.cover(true);
                    return y;
                }, row);
                if (within > most) {
                    most = within;
                    best = row;
                }
            }
            due("lying", most, x.lying(NONE));
            due("lying 0", best[0], x.lying(0));
            due("lying 2", best[1], x.lying(2));
            due("lying 3", best[2], x.lying(3));
            due("lying 1", UNKNOWN, x.lying(1));
        }
    }

    /** Of like ones the first: all rows are alike if all FOODS are always within. */
    private static void lyingGoesOnFromNow() {
        ColdBox x = new ColdBox();
        for (int f = 0; f < 6; f++) x.put(2, 500, 10, -3000, 9000);
        x.run(35);
        due("all within", 6 * 288, x.lying(NONE));
        for (int f = 0; f < 6; f++) due("the first row", 0, x.lying(f));
        for (int f = 0; f < 6; f++) due("they lie as before", 2, x.food(f, 0));
        x = made("wall 10; on 30; off 10;", "");
        x.current(false);
        x.put(0, 500, 10, -3000, 600);
        due("too warm without current", 0, x.lying(NONE));
        x.current(true);
        due("with current", 1, x.lying(NONE) > 0 ? 1 : 0);
    }

    private static void bulb() {
        String[] boxes = {"", "mix 10; on 50; off 40;", "cold 99; mix 15; on 45; off 20;"};
        for (String text : boxes) {
            ColdBox x = larder(text);
            int most = -1, best = -1;
            for (int s = 0; s < 3; s++) {
                int shelf = s;
                int within = withinByRuns(() -> {
                    ColdBox y = larder(text);
                    y.keep(0);
                    box(y, text + "bulb " + shelf + ";");
                    y.goBack(0);
                    return y;
                }, null);
                if (within > most) {
                    most = within;
                    best = s;
                }
            }
            due("bulb", best, x.bulb(0));
            due("bulb's foods", most, x.bulb(1));
            due("bulb stays", 1, x.told(8));
        }
        ColdBox x = larder("mix 10; on 50; off 40;");
        int best = x.bulb(1);
        due("lying is better", 1, x.lying(NONE) > best ? 1 : 0);
        due("bulb behind lying", best, x.bulb(1));
        x = new ColdBox();
        due("bulb 2", OUTSIDE, x.bulb(2));
        due("bulb -1", OUTSIDE, x.bulb(-1));
        due("no foods: the least", 0, x.bulb(0));
        due("no foods", 0, x.bulb(1));
        for (int f = 0; f < 8; f++) x.put(0, 500, 1, -3000, 9000);
        due("eight foods", 8 * 288, x.bulb(1));
    }

    private static void without() {
        ColdBox x = larder(LEAKY);
        due("without 1", UNKNOWN, x.without(1));
        due("without 8", UNKNOWN, x.without(8));
        due("without -1", UNKNOWN, x.without(-1));
        java.util.Set<Integer> answers = new java.util.TreeSet<>();
        for (int cap = 1; cap <= 200; cap += 19) {
            for (int low = -3000; low < 900; low += 700) {
                int high = Math.max(low, 500 + cap * 3);
                int got = stuckAndLit(cap, low, high).without(1);
                int ticks = 0;
                for (int from = 0; from <= 864 && ticks == from; from += 173) {
                    ColdBox y = stuckAndLit(cap, low, high);
                    y.current(false);
                    if (from > 0) y.run(from);
                    for (int t = 0; t < 173 && ticks == from + t; t++) {
                        y.run(1);
                        ticks += y.food(1, 5);
                    }
                }
                due("without", ticks > 864 ? NONE : ticks, got);
                answers.add(got);
            }
        }
        due("without: many answers", 1, answers.size() > 8 ? 1 : 0);
        x = new ColdBox();
        x.put(0, 500, 1, -3000, 9000);
        due("longer", NONE, x.without(0));
        due("current is as it was", 1, x.current(true));
        x.put(0, 500, 1, 9000, 9000);
        due("not within at all", 0, x.without(1));
    }

    /** larder(), with a FOOD more, that is FOOD 1. */
    private static ColdBox stuckAndLit(int cap, int low, int high) {
        ColdBox x = larder(LEAKY);
        x.trouble(32 + 16);
        x.put(1, 450, cap, low, high);
        return x;
    }

    /** A FOOD in a box where only the light of the lamp warms: without current nothing moves at all. */
    private static void withoutByHand() {
        ColdBox x = made("wall 0; seal 0; mix 0; cold 0; food 1;", "");
        x.put(0, 500, 200, 500, 500);
        due("nothing moves", NONE, x.without(0));
        // 864 and 865 TICKS: the span's end is set where the FOOD will be, by a copy that goes on.
        String slow = "wall 1; seal 0; mix 0; cold 0; food 50; room 400; stove 0 24 200;";
        ColdBox y = made(slow, "");
        y.put(1, 500, 1, -3000, 9000);
        y.current(false);
        y.run(860);
        int[] warm = new int[870];
        for (int t = 860; t < 870; t++) {
            y.run(1);
            warm[t] = y.food(0, 1);
        }
        for (int last = 862; last < 868; last++) {
            due("it warms on", 1, warm[last + 1] > warm[last] ? 1 : 0);
            ColdBox z = made(slow, "");
            z.put(1, 500, 1, -3000, warm[last]);
            due("within for " + (last + 1), last + 1 > 864 ? NONE : last + 1, z.without(0));
        }
    }

    private static void cheapRefused() {
        ColdBox x = new ColdBox();
        due("v 1000", OUTSIDE, x.cheap(0, 1, 1000));
        due("v -1", OUTSIDE, x.cheap(0, 1, -1));
        due("a -2", OUTSIDE, x.cheap(-2, 1, 0));
        due("b 25", OUTSIDE, x.cheap(0, 25, 0));
        due("b not above", OUTSIDE, x.cheap(5, 5, 0));
        due("b below", OUTSIDE, x.cheap(5, 4, 0));
        due("a 24", OUTSIDE, x.cheap(24, 25, 0));
        due("none, v 1000", OUTSIDE, x.cheap(NONE, 1, 1000));
        due("none", 1, x.cheap(NONE, 0, 0));
        due("all DAY", 1, x.cheap(0, 24, 999));
        due("the last hour", 1, x.cheap(23, 24, 0));
        due("store n 0", OUTSIDE, x.store(0, 0));
        due("store n 7", OUTSIDE, x.store(7, 0));
        due("store what 2", OUTSIDE, x.store(1, 2));
        due("store what -1", OUTSIDE, x.store(1, -1));
    }

    private static void store() {
        storeLeftMost();
        String[] rest = {"power 646; wall 3; seal 0; cold 97; mix 57;", "power 892; wall 4; seal 0; cold 55; mix 91; lamp 30;"};
        int stored = 0, none = 0;
        for (String text : rest) {
            for (int a = NONE; a < 24; a += 5) {
                for (int high = 550; high <= 1000; high += 150) {
                    ColdBox x = made(text + "on 60; off 45;", OPENED);
                    int b = a + 4;
                    x.cheap(a, b, 5);
                    x.price(40);
                    x.put(2, 450, 80, 100, high);
                    int d = NONE, paid = NONE;
                    for (int less = 0; less <= 40; less += 5) {
                        int cost = new ByHand(text, OPENED, 60, 45, high).paid(a, b, less);
                        if (cost != NONE && (paid == NONE || cost < paid)) {
                            d = less;
                            paid = cost;
                        }
                    }
                    if (d > 0) stored++;
                    if (d == NONE) none++;
                    due("store " + text + a + ", " + high, d, x.store(2, 0));
                    due("store pays", paid, x.store(2, 1));
                }
            }
        }
        due("store: some by more than 0, some by none", 1, stored > 0 && none > 0 ? 1 : 0);
    }

    /** The d of all that cools most in cheap hours. */
    private static void storeLeftMost() {
        String text = "power 692; wall 3; seal 1; cold 82; mix 90; ";
        ColdBox x = made(text + "on 66; off 37;", "");
        x.price(40);
        x.cheap(11, 16, 5);
        x.put(2, 450, 80, 100, 900);
        ByHand y = new ByHand(text, "", 66, 37, 900);
        due("40 tenths", 40, x.store(2, 0));
        due("paid by 40 tenths", y.paid(11, 16, 40), x.store(2, 1));
        due("35 are dearer", 1, y.paid(11, 16, 35) > x.store(2, 1) ? 1 : 0);
    }

    /** What is paid over two DAYS by a box that is told anew, with another 'on' and 'off', as CHEAP HOURS begin and end. */
    private static final class ByHand {
        final String text, day;
        final int on, off, high;

        ByHand(String text, String day, int on, int off, int high) {
            this.text = text;
            this.day = day;
            this.on = on;
            this.off = off;
            this.high = high;
        }

        private ColdBox told(ColdBox y, int less) {
            y.keep(1);
            box(y, text + "on " + (on - less) + "; off " + Math.max(0, off - less) + ";");
            y.goBack(1);
            return y;
        }

        /** The HOURS of a DAY are told by objects of their own, each from the first TICK on. */
        int paid(int a, int b, int less) {
            long paid = 0;
            for (int hour = 0; hour < 48; hour++) {
                ColdBox y = made(text + "on " + on + "; off " + off + ";", day);
                y.put(2, 450, 80, 100, high);
                boolean was = false;
                for (int h = 0; h <= hour; h++) {
                    boolean cheap = a != NONE && a <= h % 24 && h % 24 < b;
                    if (cheap != was) told(y, cheap ? less : 0);
                    was = cheap;
                    if (h < hour) y.run(12);
                }
                for (int t = 0; t < 12; t++) {
                    int used = y.count(1);
                    y.run(1);
                    if (y.food(0, 5) == 0) return NONE;
                    paid += (y.count(1) - used) * (was ? 5 : 40);
                }
            }
            return (int) (paid / 1000);
        }
    }

    private static void storeByHand() {
        ColdBox x = new ColdBox();
        x.trouble(16);
        due("no foods: d", 0, x.store(1, 0));
        due("STUCK is paid", 288 * 10 * 30 / 1000, x.store(1, 1));
        x.cheap(0, 12, 0);
        due("half the DAY for nothing", 144 * 10 * 30 / 1000, x.store(1, 1));
        x.run(36);
        due("from now on", 144 * 10 * 30 / 1000, x.store(1, 1));
        x.cheap(0, 24, 999);
        due("PRICE v", 6 * 288 * 10 * 999 / 1000, x.store(6, 1));
        x.cheap(NONE, 24, 999);
        due("none", 6 * 288 * 10 * 30 / 1000, x.store(6, 1));
        x.put(0, 9000, 1, 9000, 9000);
        due("a FOOD out of its span", NONE, x.store(1, 0));
        due("nothing paid", NONE, x.store(1, 1));
        // 'on' less 40 tenths falls below 0: the machine runs in cheap hours, however cold.
        ColdBox y = made("on 5; off 0; room 0; wall 9; use 10;", "");
        y.cheap(0, 24, 0);
        y.price(999);
        due("all alike, the least d", 0, y.store(1, 0));
    }

    /** Plans change nothing of what is so. */
    private static void nothingChanges() {
        ColdBox x = larder(LEAKY);
        x.cheap(1, 9, 3);
        x.seed(8);
        long[] was = new long[40];
        for (int round = 0; round < 2; round++) {
            long[] is = new long[40];
            for (int i = 0; i < 12; i++) is[i] = x.count(i);
            for (int i = 0; i < 6; i++) is[12 + i] = x.heat(i);
            for (int i = 0; i < 4; i++) is[18 + i] = x.warmth(i);
            for (int i = 0; i < 6; i++) is[22 + i] = x.food(3, i);
            is[28] = x.seed(8);
            is[29] = x.trouble(0);
            is[30] = x.current(true);
            is[31] = x.cover(false);
            if (round == 0) {
                was = is;
                x.sign(127, 6, 3);
                x.odds(3, 6);
                x.next(5);
                x.makes(127, 1);
                x.best(127, 200, 0);
                x.ice(127, 5, 3);
                x.lying(NONE);
                x.bulb(0);
                x.without(0);
                x.store(6, 1);
            } else {
                for (int i = 0; i < 40; i++) due("as it was, " + i, was[i], is[i]);
            }
        }
    }
}
