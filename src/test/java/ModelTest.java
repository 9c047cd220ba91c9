import java.lang.reflect.Method;
import java.util.ArrayList;
import java.util.Arrays;
import java.util.Comparator;
import java.util.HashSet;
import java.util.List;
import java.util.Map;
import java.util.Random;
import java.util.Set;
import java.util.TreeMap;

/**
 * Promises 1 to 46 by a second reading of the document, as plain as it can be told (nothing is kept that a call could
 * reckon anew): runs of calls with arguments at and around their bounds are asked of both.
 */
public final class ModelTest {
    private static final int NONE = -1, UNKNOWN = -1000000001, OUTSIDE = -1000000002, NOT = -1000000003, FULL = -1000000004;
    private static final int RUNS = 100, CALLS = 512;
    private static int wrong = 0;
    private static int asked = 0;
    private static int callsLeft = 0;

    public static void main(String[] args) throws Exception {
        for (int seed = 0; seed < RUNS && wrong < 20; seed++) oneRun(seed);
        System.out.println("ModelTest: " + asked + " answers, " + wrong + " wrong");
        if (wrong != 0) System.exit(1);
    }

    // ---- runs of calls

    /** A method's name, how often it is asked among others, and its arguments' bounds: least and most of each. */
    private static final String[] ASKED = {"feed 2 1 8 0 0", "box 1", "day 1", "fault 2", "told 3 0 14", "opening 3 0 11 0 1",
        "trouble 8 0 127", "fresh 2", "current 2 0 0", "cover 4 0 0", "put 14 0 2 -3000 9000 1 200 -3000 9000 -3000 9000",
        "take 6 0 7", "lay 6 0 7 0 2", "food 16 0 7 0 5", "run 20 1 2880", "drawn 6 1 10 0 20", "warmth 8 0 3", "heat 12 0 5",
        "count 24 0 11", "thaw 4", "sign 8 0 127 1 6 0 6", "seen 9 0 6 -99999 99999 1 999", "forget 1", "prior 4 0 6 0 1000",
        "bother 4 0 6 0 999", "odds 8 0 127 1 6", "each 4 0 6 1 6", "tells 4 0 6 1 6", "next 4 1 6", "makes 4 0 127 0 1",
        "mending 5 0 6 0 999", "price 4 0 999", "year 4 0 127", "saves 5 0 127 0 127", "best 4 0 127 0 9999 0 2",
        "pays 5 0 127 0 99999 0 9999", "ice 3 0 127 1 20 0 999", "lying 4 -1 7", "bulb 4 0 1", "without 6 0 7",
        "cheap 6 -1 24 0 24 0 999", "store 5 1 6 0 1", "seed 4 0 2147483647", "keep 4 0 1", "goBack 4 0 1"};

    private static void oneRun(int seed) throws Exception {
        Random r = new Random(seed);
        ColdBox x = new ColdBox();
        Plain y = new Plain();
        List<String> lots = new ArrayList<>();
        for (String line : ASKED) {
            for (int i = Integer.parseInt(line.split(" ")[1]); i > 0; i--) lots.add(line);
        }
        StringBuilder told = new StringBuilder();
        callsLeft = CALLS;
        tellBoth(x, y, someText(r, false), told, r);
        compare(x, y, "box", new Object[0], told);
        tellBoth(x, y, someText(r, true), told, r);
        compare(x, y, "day", new Object[0], told);
        while (callsLeft > 0 && wrong < 20) {
            String[] line = lots.get(r.nextInt(lots.size())).split(" ");
            if (line[0].equals("box") || line[0].equals("day")) tellBoth(x, y, someText(r, line[0].equals("day")), told, r);
            if (line[0].equals("lying") && y.tooDear(r)) continue;
            compare(x, y, line[0], arguments(line, y, r), told);
        }
    }

    private static void tellBoth(ColdBox x, Plain y, String text, StringBuilder told, Random r) throws Exception {
        told.append("\n  \"").append(text).append('"');
        int n;
        for (int i = 0; i < text.length(); i += n) {
            n = Math.min(1 + r.nextInt(8), text.length() - i);
            long bytes = r.nextLong();
            for (int k = 0; k < n; k++) bytes = bytes << 8 | text.charAt(i + k);
            compare(x, y, "feed", new Object[] {n, bytes}, told);
        }
    }

    private static void compare(ColdBox x, Plain y, String name, Object[] with, StringBuilder told) throws Exception {
        if (callsLeft-- <= 0) return;
        asked++;
        long got = ask(ColdBox.class, x, name, with);
        long want = ask(Plain.class, y, name, with);
        String call = name + Arrays.toString(with);
        told.append("\n  ").append(call).append(' ').append(got);
        if (got != want) wrong(call, want, got, told);
    }

    private static long ask(Class<?> of, Object x, String name, Object[] with) throws Exception {
        for (Method m : of.getDeclaredMethods()) {
            if (m.getName().equals(name) && m.getParameterCount() == with.length) return ((Number) m.invoke(x, with)).longValue();
        }
        throw new IllegalStateException(name);
    }

    private static void wrong(String call, long want, long got, StringBuilder told) {
        if (wrong++ < 3) System.out.println("ahead of it: " + told);
        System.out.println(call + " answered " + got + ", due is " + want);
    }

    private static Object[] arguments(String[] line, Plain y, Random r) {
        Object[] with = new Object[line.length / 2 - 1];
        for (int i = 0; i < with.length; i++) {
            int least = Integer.parseInt(line[2 + 2 * i]);
            int most = Integer.parseInt(line[3 + 2 * i]);
            with[i] = number(least, most, r);
        }
        switch (line[0]) {
            case "feed": with[1] = r.nextLong(); break;
            case "current": case "cover": with[0] = r.nextInt(4) > 0; break;
            case "put": if (r.nextInt(4) > 0) aimFood(with, r); break;
            case "run": if (r.nextInt(5) > 0) with[0] = 1 + r.nextInt(300); break;
            case "seen": if (r.nextInt(5) > 0) aimSeen(with, y, r); break;
            case "odds": if (r.nextInt(5) > 0) with[0] = 1 << r.nextInt(7) & 127 | 1 << r.nextInt(7) & 127; break;
            case "saves": if (r.nextInt(5) > 0) with[1] = (Integer) with[1] & (Integer) with[0]; break;
            case "best": if (r.nextInt(3) > 0) with[1] = 50 * r.nextInt(8) - r.nextInt(2); break;
            case "pays": if (r.nextInt(2) > 0) with[2] = r.nextInt(4000); break;
            case "ice": if (r.nextInt(3) > 0) with[2] = r.nextInt(30); break;
            default: break;
        }
        return with;
    }

    private static int number(int least, int most, Random r) {
        switch (r.nextInt(12)) {
            case 0: return least;
            case 1: return most;
            case 2: return r.nextInt(3) > 0 ? least : least - 1;
            case 3: return r.nextInt(3) > 0 ? most : most + 1;
            case 4: return r.nextInt(4) > 0 ? least : r.nextBoolean() ? Integer.MIN_VALUE : Integer.MAX_VALUE;
            default: return (int) (least + (long) (r.nextDouble() * ((long) most - least + 1)));
        }
    }

    /** A FOOD that may well stay within its span. */
    private static void aimFood(Object[] with, Random r) {
        int w = r.nextInt(1500) - 300;
        with[0] = r.nextInt(3);
        with[1] = w;
        with[2] = r.nextInt(4) == 0 ? 1 + r.nextInt(3) : 1 + r.nextInt(200);
        with[3] = w - r.nextInt(900);
        with[4] = w + r.nextInt(900);
    }

    /** What a SET shows, or near it. */
    private static void aimSeen(Object[] with, Plain y, Random r) {
        int what = r.nextInt(7);
        int shown = (int) y.shown(r.nextInt(128), 1 + r.nextInt(3))[what];
        with[0] = what;
        with[1] = Math.max(-99999, Math.min(99999, shown + r.nextInt(101) - 50));
        with[2] = 1 + r.nextInt(r.nextBoolean() ? 999 : 60);
    }

    private static String someText(Random r, boolean day) {
        StringBuilder text = new StringBuilder();
        if (day) {
            int t = r.nextInt(30);
            for (int i = r.nextInt(6) == 0 ? 13 : r.nextInt(6); i > 0 && t < 290; i--) {
                clause(text, "open", r, t, 1 + r.nextInt(20));
                t += r.nextInt(70);
            }
        } else {
            String[] words = {"power", "wall", "seal", "mix", "cold", "food", "on", "off", "bulb", "use", "lamp", "room", "stove"};
            int[] most = {999, 20, 20, 99, 99, 99, 120, 60, 2, 99, 99, 400, 22};
            for (int k = 0; k < words.length; k++) {
                if (r.nextInt(2) == 0) continue;
                int n = r.nextInt(most[k] + 1);
                if (k == 12) clause(text, words[k], r, n, n + r.nextInt(25 - n), r.nextInt(201));
                else if (k == 6) clause(text, words[k], r, 30 + r.nextInt(91));
                else clause(text, words[k], r, r.nextInt(30) == 0 ? n * 3 : n);
            }
            if (r.nextInt(12) == 0) clause(text, words[r.nextInt(13)], r, 1);
        }
        if (r.nextInt(14) == 0 && text.length() > 0) text.setCharAt(r.nextInt(text.length()), " ;x0A".charAt(r.nextInt(5)));
        if (r.nextInt(20) == 0) text.setLength(r.nextInt(text.length() + 1));
        if (text.length() > 300) text.setLength(300);
        return text.toString();
    }

    private static void clause(StringBuilder text, String word, Random r, int... numbers) {
        text.append(word).append(r.nextInt(3) == 0 ? "" : " ");
        for (int i = 0; i < numbers.length; i++) text.append(i > 0 ? " " : "").append(numbers[i]);
        text.append(r.nextInt(8) == 0 ? " ;" : ";").append(r.nextInt(4) == 0 ? " " : "");
    }

    // ---- the second reading

    private static final class Food {
        int shelf, cap, low, high;
        long heat;

        Food(int shelf, int cap, int low, int high, long heat) {
            this.shelf = shelf;
            this.cap = cap;
            this.low = low;
            this.high = high;
            this.heat = heat;
        }

        long warm() {
            return heat / cap;
        }

        boolean within() {
            return warm() >= low && warm() <= high;
        }
    }

    /** What an IMAGE keeps. */
    private static final class Now {
        long[] air = new long[3];
        long coil, fur, reading, seed;
        long tick, used, starts, ticksOn, wet, drained, passed;
        long in, put, lamp, moved, taken;
        boolean on, covered, current = true;
        Set<Integer> troubles = new HashSet<>();
        TreeMap<Integer, Food> foods = new TreeMap<>();

        Now() {
            fresh();
        }

        Now(Now o) {
            air = o.air.clone();
            coil = o.coil;
            fur = o.fur;
            reading = o.reading;
            seed = o.seed;
            tick = o.tick;
            used = o.used;
            starts = o.starts;
            ticksOn = o.ticksOn;
            wet = o.wet;
            drained = o.drained;
            passed = o.passed;
            in = o.in;
            put = o.put;
            lamp = o.lamp;
            moved = o.moved;
            taken = o.taken;
            on = o.on;
            covered = o.covered;
            current = o.current;
            troubles = new HashSet<>(o.troubles);
            for (Map.Entry<Integer, Food> e : o.foods.entrySet()) {
                Food f = e.getValue();
                foods.put(e.getKey(), new Food(f.shelf, f.cap, f.low, f.high, f.heat));
            }
        }

        void fresh() {
            Arrays.fill(air, 500 * 20);
            coil = -1000 * 40;
            fur = troubles.contains(1) ? 600 : 0;
            foods.clear();
            on = false;
            reading = 500;
            tick = used = starts = ticksOn = wet = drained = passed = 0;
            in = put = lamp = moved = taken = 0;
            covered = false;
        }

        long within() {
            return foods.values().stream().filter(Food::within).count();
        }

        long thaw() {
            long drains = fur;
            drained += fur;
            fur = 0;
            for (int s = 0; s < 3; s++) {
                if (air[s] / 20 < 1000) {
                    in += 20 * 1000 - air[s];
                    air[s] = 20 * 1000;
                }
            }
            if (coil / 40 < 1000) {
                in += 40 * 1000 - coil;
                coil = 40 * 1000;
            }
            return drains;
        }
    }

    private static Set<Integer> troublesOf(int set) {
        Set<Integer> found = new HashSet<>();
        for (int k = 0; k < 7; k++) {
            if ((set >> k & 1) == 1) found.add(k);
        }
        return found;
    }

    private static final class Plain {
        private static final String[] NAMES = {"power", "wall", "seal", "mix", "cold", "food", "on", "off", "bulb", "use", "lamp", "room"};
        private static final int[][] BOUNDS = {{1, 999, 900}, {0, 99, 4}, {0, 99, 3}, {0, 99, 40}, {0, 99, 60}, {1, 99, 10},
            {0, 200, 70}, {0, 200, 30}, {0, 2, 1}, {1, 99, 10}, {0, 99, 4}, {0, 400, 200}};
        private int[] build = untold();
        private List<int[]> openings = new ArrayList<>();
        private String text = "";
        private int faultPlace = NONE;
        private Now now = new Now();
        private final Now[] images = new Now[2];
        private final Map<Integer, int[]> seen = new TreeMap<>();
        private final int[] priors = {100, 100, 100, 100, 100, 100, 100};
        private final int[] bothers = new int[7];
        private final int[] costs = {50, 50, 50, 50, 50, 50, 50};
        private int price = 30;
        private int[] cheap = {NONE, NONE, 0};

        private static int[] untold() {
            int[] b = new int[15];
            for (int i = 0; i < NAMES.length; i++) b[i] = BOUNDS[i][2];
            b[12] = NONE;
            b[13] = NONE;
            return b;
        }

        private static boolean among(long v, long least, long most) {
            return v >= least && v <= most;
        }

        int feed(int n, long bytes) {
            if (!among(n, 1, 8)) return OUTSIDE;
            if (text.length() + n > 300) return FULL;
            byte[] all = java.nio.ByteBuffer.allocate(8).putLong(bytes).array();
            for (int i = 8 - n; i < 8; i++) text += (char) (all[i] & 255);
            return text.length();
        }

        int box() {
            String t = text;
            text = "";
            Scan scan = new Scan(t);
            int[] told = untold();
            Set<String> words = new HashSet<>();
            while (scan.fault == 0 && !scan.atEnd()) {
                int first = scan.at;
                String word = scan.word();
                int k = Arrays.asList(NAMES).indexOf(word);
                if (k < 0 && !word.equals("stove")) scan.fail(1, first);
                else if (!words.add(word)) scan.fail(3, first);
                else if (k >= 0) told[k] = scan.number(BOUNDS[k][0], BOUNDS[k][1]);
                else {
                    told[12] = scan.number(0, 24);
                    told[13] = scan.number(told[12] + 1, 24);
                    told[14] = scan.number(0, 200);
                }
                scan.semicolon();
            }
            if (scan.fault == 0 && told[7] >= told[6]) scan.fail(4, t.length());
            faultPlace = scan.place;
            if (scan.fault != 0) return -10 - scan.fault;
            build = told;
            now.fresh();
            return words.size();
        }

        int day() {
            Scan scan = new Scan(text);
            text = "";
            List<int[]> told = new ArrayList<>();
            int above = -1;
            while (scan.fault == 0 && !scan.atEnd()) {
                int first = scan.at;
                if (!scan.word().equals("open")) scan.fail(1, first);
                else if (told.size() == 12) scan.fail(3, first);
                above = scan.number(above + 1, 287);
                told.add(new int[] {above, scan.number(1, 20)});
                scan.semicolon();
            }
            faultPlace = scan.place;
            if (scan.fault != 0) return -10 - scan.fault;
            openings = told;
            return told.size();
        }

        int fault() {
            return faultPlace;
        }

        int told(int what) {
            return among(what, 0, 14) ? build[what] : OUTSIDE;
        }

        int opening(int i, int what) {
            if (!among(what, 0, 1)) return OUTSIDE;
            return among(i, 0, openings.size() - 1) ? openings.get(i)[what] : NONE;
        }

        private static int setOf(Set<Integer> troubles) {
            return troubles.stream().mapToInt(k -> 1 << k).sum();
        }

        int trouble(int set) {
            if (!among(set, 0, 127)) return UNKNOWN;
            Set<Integer> were = now.troubles;
            now.troubles = troublesOf(set);
            if (now.troubles.contains(1) && !were.contains(1) && now.fur < 600) now.fur = 600;
            return setOf(were);
        }

        int fresh() {
            int tick = (int) now.tick;
            now.fresh();
            return tick;
        }

        int current(boolean on) {
            boolean was = now.current;
            now.current = on;
            return was ? 1 : 0;
        }

        int cover(boolean is) {
            boolean was = now.covered;
            now.covered = is;
            return was ? 1 : 0;
        }

        int put(int s, int w, int c, int low, int high) {
            if (!among(s, 0, 2)) return UNKNOWN;
            if (!among(w, -3000, 9000) || !among(c, 1, 200)) return OUTSIDE;
            if (!among(low, -3000, 9000) || !among(high, -3000, 9000) || high < low) return OUTSIDE;
            int f = 0;
            while (now.foods.containsKey(f)) f++;
            if (f > 7) return FULL;
            now.foods.put(f, new Food(s, c, low, high, (long) w * c));
            now.put += (long) w * c;
            return f;
        }

        int take(int f) {
            Food food = now.foods.remove(f);
            if (food == null) return UNKNOWN;
            now.taken += food.heat;
            return (int) food.warm();
        }

        int lay(int f, int s) {
            Food food = now.foods.get(f);
            if (food == null || !among(s, 0, 2)) return UNKNOWN;
            int lay = food.shelf;
            food.shelf = s;
            return lay;
        }

        int food(int f, int what) {
            Food food = now.foods.get(f);
            if (food == null) return UNKNOWN;
            if (!among(what, 0, 5)) return OUTSIDE;
            return new int[] {food.shelf, (int) food.warm(), food.cap, food.low, food.high, food.within() ? 1 : 0}[what];
        }

        /** THE DOOR by THE DAY. */
        private boolean open(long tick) {
            for (int[] o : openings) {
                if (among(tick % 288, o[0], o[0] + o[1] - 1)) return true;
            }
            return false;
        }

        private void tick(Now s) {
            tick(s, open(s.tick), build[8], 0);
        }

        private void ticks(Now s, int n) {
            for (int i = 0; i < n; i++) tick(s);
        }

        private void tick(Now s, boolean open, int bulb, int less) {
            long power = build[0], wall = build[1], seal = build[2], mix = build[3], conducts = build[4], food = build[5];
            long upper = 10 * (build[6] - less), lower = 10 * (build[7] - less);
            long hour = s.tick % 288 / 12;
            long room = build[11] * 10;
            if (build[12] != NONE && build[12] <= hour && hour < build[13]) room += build[14] * 10;
            if (s.troubles.contains(6)) room += 800;
            if (s.troubles.contains(0)) seal = 4 * seal + 12;
            // 1.
            boolean lit = open || s.troubles.contains(5);
            // 2.
            long[] air = {s.air[0] / 20, s.air[1] / 20, s.air[2] / 20};
            long coil = s.coil / 40;
            if (s.covered) s.reading = s.reading + (air[bulb] - s.reading) / 8;
            else s.reading = air[bulb];
            boolean was = s.on;
            if (s.current && (s.troubles.contains(4) || s.reading >= upper)) s.on = true;
            else if (!s.current || s.reading <= lower) s.on = false;
            if (s.on && !was) s.starts++;
            // 3.
            long[] flows = {0, 0, 0};
            for (int i = 0; i < 3; i++) {
                flows[i] = (wall + seal + (open ? 60 : 0)) * (room - air[i]) / 100;
                s.in += flows[i];
            }
            long from0 = mix * (air[0] - air[1]) / 100;
            long from1 = mix * (air[1] - air[2]) / 100;
            long cold = conducts * (air[0] - coil) / 100 * 1000 / (1000 + s.fur);
            flows[0] += -from0 - cold;
            flows[1] += from0 - from1;
            flows[2] += from1;
            for (Food f : s.foods.values()) {
                long flow = food * (air[f.shelf] - f.warm()) / 100;
                flows[f.shelf] -= flow;
                f.heat += flow;
            }
            for (int i = 0; i < 3; i++) s.air[i] += flows[i];
            s.coil += cold;
            // 4.
            long light = lit && s.current ? build[10] : 0;
            s.air[0] += light * 5;
            s.lamp += light * 5;
            // 5.
            if (s.on) {
                if (s.troubles.contains(2)) power -= 50 * power / 100;
                if (s.troubles.contains(3)) power -= 45 * power / 100;
                long moved = Math.max(power - (room - coil) / 8, 0);
                s.coil -= moved;
                s.moved += moved;
                s.ticksOn++;
            }
            // 6.
            s.used += (s.on ? build[9] : 0) + light;
            // 7.
            long wet = seal + (open ? 20 : 0);
            s.wet += wet;
            if (s.coil / 40 < 0) {
                for (; wet > 0 && s.fur < 9999; wet--) s.fur++;
                s.passed += wet;
            } else {
                s.passed += wet;
                for (long drains = s.coil / 40 / 20 + 1; drains > 0 && s.fur > 0; drains--) {
                    s.fur--;
                    s.drained++;
                }
            }
            s.tick++;
        }

        int run(int n) {
            if (!among(n, 1, 2880)) return OUTSIDE;
            long on = now.ticksOn;
            ticks(now, n);
            return (int) (now.ticksOn - on);
        }

        int drawn(int n, int m) {
            if (!among(n, 1, 10) || !among(m, 0, 20)) return OUTSIDE;
            long used = now.used;
            Set<Long> door = new HashSet<>();
            for (int i = 0; i < 288 * n; i++) {
                if (i == 0 || now.tick % 288 == 0) {
                    door.clear();
                    for (int k = 0; k < m; k++) {
                        now.seed = (now.seed * 1103515245 + 12345) % (1L << 31);
                        door.add(now.seed / 65536 % 288);
                    }
                }
                tick(now, door.contains(now.tick % 288), build[8], 0);
            }
            return (int) (now.used - used);
        }

        int warmth(int s) {
            if (!among(s, 0, 3)) return UNKNOWN;
            return (int) (s < 3 ? now.air[s] / 20 : now.coil / 40);
        }

        long heat(int what) {
            if (!among(what, 0, 5)) return OUTSIDE;
            long all = now.air[0] + now.air[1] + now.air[2] + now.coil;
            for (Food f : now.foods.values()) all += f.heat;
            return new long[] {all, now.in, now.put, now.lamp, now.moved, now.taken}[what];
        }

        int count(int what) {
            if (!among(what, 0, 11)) return OUTSIDE;
            return (int) new long[] {now.tick, now.used, now.starts, now.ticksOn, now.wet, now.fur, now.drained, now.passed,
                now.reading, now.on ? 1 : 0, now.foods.size(), text.length()}[what];
        }

        int thaw() {
            return (int) now.thaw();
        }

        private Now freshOf(int set, boolean current) {
            Now s = new Now();
            s.troubles = troublesOf(set);
            s.current = current;
            s.fresh();
            return s;
        }

        /** All SIGNS of a SET over n DAYS. */
        long[] shown(int set, int n) {
            return shown(set, n, true);
        }

        private long[] shown(int set, int n, boolean current) {
            Now s = freshOf(set, current);
            ticks(s, 288 * (n - 1));
            long on = s.ticksOn, starts = s.starts, used = s.used;
            ticks(s, 288);
            return new long[] {s.ticksOn - on, s.starts - starts, s.air[0] / 20, s.air[1] / 20, s.air[2] / 20, s.fur, s.used - used};
        }

        int sign(int set, int n, int what) {
            if (!among(set, 0, 127) || !among(what, 0, 6)) return UNKNOWN;
            return among(n, 1, 6) ? (int) shown(set, n)[what] : OUTSIDE;
        }

        int seen(int what, int v, int e) {
            if (!among(what, 0, 6)) return UNKNOWN;
            if (!among(v, -99999, 99999) || !among(e, 1, 999)) return OUTSIDE;
            seen.put(what, new int[] {v, e});
            return seen.size();
        }

        int forget() {
            int were = seen.size();
            seen.clear();
            return were;
        }

        private static int become(int[] row, int i, int v, int most) {
            if (!among(i, 0, row.length - 1)) return UNKNOWN;
            if (!among(v, 0, most)) return OUTSIDE;
            int was = row[i];
            row[i] = v;
            return was;
        }

        int prior(int k, int p) {
            return become(priors, k, p, 1000);
        }

        int bother(int what, int b) {
            return become(bothers, what, b, 999);
        }

        /** Of each SET that COULD BE: its WEIGHT, and behind it its SIGNS. */
        private Map<Integer, long[]> weighed(int n) {
            Map<Integer, long[]> all = new TreeMap<>();
            for (int set = 0; set < 128; set++) {
                if (troublesOf(set).size() > 2) continue;
                long[] signs = shown(set, n);
                long weight = 1000000;
                for (int k = 0; k < 7; k++) weight = weight * ((set >> k & 1) == 1 ? priors[k] : 1000 - priors[k]) / 1000;
                for (Map.Entry<Integer, int[]> e : seen.entrySet()) {
                    long far = Math.abs(e.getValue()[0] - signs[e.getKey()]);
                    for (int i = 0; i < 20 && far >= e.getValue()[1]; i++) {
                        weight /= 2;
                        far -= e.getValue()[1];
                    }
                }
                long[] row = Arrays.copyOf(signs, 8);
                row[7] = weight;
                all.put(set, row);
            }
            return all;
        }

        private static long sumOf(Map<Integer, long[]> weighed) {
            return weighed.values().stream().mapToLong(row -> row[7]).sum();
        }

        private static int oddsOf(Map<Integer, long[]> weighed, int set) {
            long all = sumOf(weighed);
            return all == 0 ? 0 : (int) (1000000 * weighed.get(set)[7] / all);
        }

        int odds(int set, int n) {
            if (!among(set, 0, 127) || troublesOf(set).size() > 2) return UNKNOWN;
            return among(n, 1, 6) ? oddsOf(weighed(n), set) : OUTSIDE;
        }

        int each(int k, int n) {
            if (!among(k, 0, 6)) return UNKNOWN;
            if (!among(n, 1, 6)) return OUTSIDE;
            Map<Integer, long[]> weighed = weighed(n);
            return weighed.keySet().stream().filter(set -> (set >> k & 1) == 1).mapToInt(set -> oddsOf(weighed, set)).sum();
        }

        private int tellsOf(Map<Integer, long[]> weighed, int what) {
            long e = seen.containsKey(what) ? seen.get(what)[1] : 50;
            Map<Long, Long> classes = new TreeMap<>();
            for (long[] row : weighed.values()) classes.merge(row[what] / e, row[7], Long::sum);
            long all = sumOf(weighed);
            long squares = classes.values().stream().mapToLong(w -> w * w).sum();
            return all == 0 ? 0 : (int) (1000 - 1000 * squares / (all * all));
        }

        int tells(int what, int n) {
            if (!among(what, 0, 6)) return UNKNOWN;
            return among(n, 1, 6) ? tellsOf(weighed(n), what) : OUTSIDE;
        }

        int next(int n) {
            if (!among(n, 1, 6)) return OUTSIDE;
            Map<Integer, long[]> weighed = weighed(n);
            return java.util.stream.IntStream.range(0, 7).filter(what -> !seen.containsKey(what)).boxed()
                .max(Comparator.<Integer>comparingInt(what -> tellsOf(weighed, what) - bothers[what]).thenComparingInt(what -> -what))
                .orElse(NONE);
        }

        int makes(int set, int what) {
            if (!among(set, 0, 127)) return UNKNOWN;
            if (!among(what, 0, 1)) return OUTSIDE;
            Now s = freshOf(set, now.current);
            for (int d = 1; d <= 30; d++) {
                long on = s.ticksOn;
                ticks(s, 288);
                if (what == 0 ? s.fur >= 600 : s.ticksOn - on == 288) return d;
            }
            return NONE;
        }

        int mending(int k, int c) {
            return become(costs, k, c, 999);
        }

        int price(int v) {
            if (!among(v, 0, 999)) return OUTSIDE;
            int was = price;
            price = v;
            return was;
        }

        private long yearBy(long used) {
            return used * 365 * price / 1000;
        }

        int year(int set) {
            return among(set, 0, 127) ? (int) yearBy(shown(set, 2, now.current)[6]) : UNKNOWN;
        }

        int saves(int set, int part) {
            if (!among(set, 0, 127) || !among(part, 0, 127)) return UNKNOWN;
            return troublesOf(set).containsAll(troublesOf(part)) ? year(set) - year(set - part) : NOT;
        }

        int best(int set, int c, int what) {
            if (!among(set, 0, 127)) return UNKNOWN;
            if (!among(c, 0, 9999) || !among(what, 0, 2)) return OUTSIDE;
            int year = year(set);
            List<int[]> parts = new ArrayList<>();
            for (int part = 0; part <= set; part++) {
                int cost = troublesOf(part).stream().mapToInt(k -> costs[k]).sum();
                if (troublesOf(set).containsAll(troublesOf(part)) && cost <= c) parts.add(new int[] {part, year - year(set - part), cost});
            }
            return parts.stream().min(Comparator.<int[]>comparingInt(p -> -p[1]).thenComparingInt(p -> p[2])
                .thenComparingInt(p -> p[0])).orElseThrow()[what];
        }

        int pays(int set, int c, int u) {
            if (!among(set, 0, 127)) return UNKNOWN;
            if (!among(c, 0, 99999) || !among(u, 0, 9999)) return OUTSIDE;
            long less = year(set) - yearBy(u);
            int y = 1;
            while (y <= 30 && y * less < c) y++;
            return y > 30 ? NONE : y;
        }

        int ice(int set, int n, int b) {
            if (!among(set, 0, 127)) return UNKNOWN;
            if (!among(n, 1, 20) || !among(b, 0, 999)) return OUTSIDE;
            int best = NONE;
            long least = Long.MAX_VALUE;
            for (int p = 0; p <= 20; p++) {
                Now s = freshOf(set, now.current);
                long bother = 0;
                for (int d = 0; d < n; d++) {
                    if (p > 0 && d > 0 && d % p == 0) {
                        s.thaw();
                        bother += b;
                    }
                    ticks(s, 288);
                }
                if (s.used * price / 1000 + bother < least) {
                    least = s.used * price / 1000 + bother;
                    best = p;
                }
            }
            return best;
        }

        boolean tooDear(Random r) {
            return now.foods.size() > 3 && now.foods.size() < 7 && r.nextInt(now.foods.size() == 4 ? 3 : 12) > 0;
        }

        private long secondDay(Now s, int bulb) {
            long within = 0;
            for (int i = 0; i < 2 * 288; i++) {
                tick(s, open(s.tick), bulb, 0);
                if (i >= 288) within += s.within();
            }
            return within;
        }

        int lying(int f) {
            if (f != NONE && !now.foods.containsKey(f)) return UNKNOWN;
            if (now.foods.size() > 6) return NOT;
            List<Integer> foods = new ArrayList<>(now.foods.keySet());
            int rows = (int) Math.pow(3, foods.size());
            long most = NONE;
            Map<Integer, Integer> best = new TreeMap<>();
            for (int r = 0; r < rows; r++) {
                Now s = new Now(now);
                Map<Integer, Integer> row = new TreeMap<>();
                for (int i = 0; i < foods.size(); i++) row.put(foods.get(i), r / (int) Math.pow(3, foods.size() - 1 - i) % 3);
                row.forEach((food, shelf) -> s.foods.get(food).shelf = shelf);
                long within = secondDay(s, build[8]);
                if (within > most) {
                    most = within;
                    best = row;
                }
            }
            return f == NONE ? (int) most : best.get(f);
        }

        int bulb(int what) {
            if (!among(what, 0, 1)) return OUTSIDE;
            long most = NONE;
            int best = NONE;
            for (int s = 0; s < 3; s++) {
                long within = secondDay(new Now(now), s);
                if (within > most) {
                    most = within;
                    best = s;
                }
            }
            return what == 0 ? best : (int) most;
        }

        int without(int f) {
            if (!now.foods.containsKey(f)) return UNKNOWN;
            Now s = new Now(now);
            s.current = false;
            for (int t = 0; t < 865; t++) {
                tick(s);
                if (!s.foods.get(f).within()) return t;
            }
            return NONE;
        }

        int cheap(int a, int b, int v) {
            if (!among(v, 0, 999)) return OUTSIDE;
            if (a == NONE) {
                cheap = new int[] {NONE, NONE, v};
                return 1;
            }
            if (!among(a, 0, 24) || !among(b, a + 1, 24)) return OUTSIDE;
            cheap = new int[] {a, b, v};
            return 1;
        }

        int store(int n, int what) {
            if (!among(n, 1, 6) || !among(what, 0, 1)) return OUTSIDE;
            int best = NONE;
            long least = NONE;
            for (int d = 0; d <= 40; d += 5) {
                Now s = new Now(now);
                long paid = 0;
                boolean all = true;
                for (int i = 0; i < 288 * n && all; i++) {
                    long hour = s.tick % 288 / 12;
                    boolean isCheap = cheap[0] != NONE && cheap[0] <= hour && hour < cheap[1];
                    long used = s.used;
                    tick(s, open(s.tick), build[8], isCheap ? d : 0);
                    paid += (s.used - used) * (isCheap ? cheap[2] : price);
                    all = s.within() == s.foods.size();
                }
                if (all && (best == NONE || paid / 1000 < least)) {
                    best = d;
                    least = paid / 1000;
                }
            }
            return what == 0 ? best : (int) least;
        }

        int seed(int v) {
            if (v < 0) return OUTSIDE;
            int was = (int) now.seed;
            now.seed = v;
            return was;
        }

        int keep(int i) {
            if (!among(i, 0, 1)) return UNKNOWN;
            images[i] = new Now(now);
            return 1;
        }

        int goBack(int i) {
            if (!among(i, 0, 1)) return UNKNOWN;
            if (images[i] == null) return NOT;
            now = new Now(images[i]);
            return 1;
        }
    }

    /** A text, byte by byte; the first FAULT stands. */
    private static final class Scan {
        final String text;
        int at = 0, fault = 0, place = NONE;

        Scan(String text) {
            this.text = text;
        }

        void fail(int number, int where) {
            if (fault != 0) return;
            fault = number;
            place = where;
        }

        boolean atEnd() {
            while (text.startsWith(" ", at)) at++;
            return at == text.length();
        }

        private String matched(String pattern) {
            java.util.regex.Matcher m = java.util.regex.Pattern.compile(pattern).matcher(text).region(at, text.length());
            if (!m.lookingAt()) return "";
            at = m.end();
            return m.group();
        }

        String word() {
            return matched("[a-z]+");
        }

        int number(int least, int most) {
            atEnd();
            int first = at;
            String figures = matched("[0-9]+");
            if (figures.isEmpty()) fail(1, first);
            else if (figures.length() > 3) fail(2, first);
            else if (Integer.parseInt(figures) < least || Integer.parseInt(figures) > most) fail(2, first);
            return fault == 0 ? Integer.parseInt(figures) : 0;
        }

        void semicolon() {
            if (fault != 0) return;
            if (atEnd() || text.charAt(at) != ';') fail(1, at);
            else at++;
        }
    }
}
