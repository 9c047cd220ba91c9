import java.lang.reflect.Constructor;
import java.lang.reflect.Field;
import java.lang.reflect.Method;
import java.lang.reflect.Modifier;
import java.util.ArrayList;
import java.util.Arrays;
import java.util.Comparator;
import java.util.List;
import java.util.Random;

/** The face; that no call throws, whatever it is asked; that what is refused changes nothing; texts of any bytes. */
public final class AnyCallTest {
    private static final String FACE = "best:iii bother:ii box: bulb:i cheap:iii count:i cover:z current:z day: drawn:ii each:ii"
        + " fault: feed:il food:ii forget: fresh: goBack:i heat:i ice:iii keep:i lay:ii lying:i makes:ii mending:ii next:i"
        + " odds:ii opening:ii pays:iii price:i prior:ii put:iiiii run:i saves:ii seed:i seen:iii sign:iii store:ii take:i"
        + " tells:ii thaw: told:i trouble:i warmth:i without:i year:i";
    private static final int[] EDGES = {Integer.MIN_VALUE, Integer.MAX_VALUE, -1000000001, -3001, -3000, -100000, -2, -1, 0, 1, 2,
        3, 4, 5, 6, 7, 8, 9, 10, 11, 12, 20, 21, 24, 25, 127, 128, 200, 288, 999, 1000, 1001, 2880, 2881, 9000, 9999, 99999};
    private static final String WORDS = "power wall seal mix cold food on off bulb use lamp room stove open";
    private static final int UNKNOWN = -1000000001, FULL = -1000000004;
    private static int wrong = 0;
    private static int asked = 0;
    private static int refused = 0;

    public static void main(String[] args) throws Exception {
        face();
        for (int seed = 0; seed < 60; seed++) anyCalls(seed);
        for (int seed = 0; seed < 400; seed++) anyTexts(seed);
        due("many calls were refused", true, refused > 2000);
        System.out.println("AnyCallTest: " + asked + " answers, " + wrong + " wrong");
        if (wrong != 0) System.exit(1);
    }

    private static void due(String what, Object want, Object got) {
        asked++;
        if (!want.equals(got)) {
            wrong++;
            System.out.println(what + ": " + got + ", due is " + want);
        }
    }

    private static List<Method> methods() {
        List<Method> found = new ArrayList<>();
        for (Method m : ColdBox.class.getDeclaredMethods()) {
            if (!Modifier.isPrivate(m.getModifiers())) found.add(m);
        }
        found.sort(Comparator.comparing(Method::getName));
        return found;
    }

    private static void face() {
        StringBuilder is = new StringBuilder();
        for (Method m : methods()) {
            due(m.getName() + " is public", true, Modifier.isPublic(m.getModifiers()) && !Modifier.isStatic(m.getModifiers()));
            due(m.getName() + " answers", m.getName().equals("heat") ? long.class : int.class, m.getReturnType());
            is.append(is.length() > 0 ? " " : "").append(m.getName()).append(':');
            for (Class<?> p : m.getParameterTypes()) is.append(p == int.class ? 'i' : p == long.class ? 'l' : 'z');
        }
        due("the face", FACE, is.toString());
        int constants = 0;
        for (Field f : ColdBox.class.getDeclaredFields()) {
            if (Modifier.isPrivate(f.getModifiers())) continue;
            constants++;
            due(f.getName(), Modifier.PUBLIC | Modifier.STATIC | Modifier.FINAL, f.getModifiers());
        }
        due("constants", 5, constants);
        due("constants' answers", Arrays.asList(-1, -1000000001, -1000000002, -1000000003, -1000000004),
            Arrays.asList(ColdBox.NONE, ColdBox.UNKNOWN, ColdBox.OUTSIDE, ColdBox.NOT, ColdBox.FULL));
        Constructor<?>[] made = ColdBox.class.getDeclaredConstructors();
        due("constructors", 1, made.length);
        due("the class", Modifier.PUBLIC | Modifier.FINAL, ColdBox.class.getModifiers());
        for (Class<?> c : ColdBox.class.getDeclaredClasses()) due(c + " is static", true, Modifier.isStatic(c.getModifiers()));
    }

    private static Object argument(Class<?> type, Random r) {
        if (type == boolean.class) return r.nextInt(4) > 0;
        if (type == long.class) return r.nextLong();
        return r.nextInt(3) == 0 ? EDGES[r.nextInt(EDGES.length)] : r.nextInt(2) == 0 ? r.nextInt(8) : r.nextInt(130);
    }

    private static void tell(ColdBox x, String text) {
        for (int i = 0; i < text.length(); i += 8) {
            int n = Math.min(8, text.length() - i);
            long bytes = 0;
            for (int k = 0; k < n; k++) bytes = bytes << 8 | text.charAt(i + k);
            x.feed(n, bytes);
        }
    }

    private static String someBox(Random r) {
        return "power " + (1 + r.nextInt(999)) + "; wall " + r.nextInt(100) + "; seal " + r.nextInt(100) + "; mix " + r.nextInt(100)
            + "; cold " + r.nextInt(100) + "; food " + (1 + r.nextInt(99)) + "; on " + (100 + r.nextInt(101)) + "; off "
            + r.nextInt(100) + "; bulb " + r.nextInt(3) + "; lamp " + r.nextInt(100) + "; room " + r.nextInt(401) + "; stove "
            + r.nextInt(12) + " " + (12 + r.nextInt(13)) + " " + r.nextInt(201) + ";";
    }

    private static long ask(ColdBox x, Method m, Object[] with) throws Exception {
        return ((Number) m.invoke(x, with)).longValue();
    }

    /** One of two objects is never asked what the other refuses: what is refused changes nothing. */
    private static void anyCalls(int seed) throws Exception {
        Random r = new Random(seed);
        ColdBox x = new ColdBox();
        ColdBox y = new ColdBox();
        List<Method> all = methods();
        if (r.nextInt(3) > 0) {
            String text = someBox(r);
            tell(x, text);
            tell(y, text);
            due("box " + text, 12, x.box());
            y.box();
        }
        for (int i = 0; i < 440; i++) {
            Method m = all.get(r.nextInt(all.size()));
            if (m.getName().equals("lying") && r.nextInt(3) > 0) continue;
            Object[] with = new Object[m.getParameterCount()];
            for (int k = 0; k < with.length; k++) with[k] = argument(m.getParameterTypes()[k], r);
            long got = ask(x, m, with);
            if (got <= UNKNOWN && got >= FULL) {
                refused++;
            } else {
                due(m.getName() + Arrays.toString(with) + " of like objects", got, ask(y, m, with));
                if (m.getReturnType() == int.class) due(m.getName() + " answers a refusal or what is counted", true, got > UNKNOWN);
            }
        }
    }

    /** Texts of words, NUMBERS and other signs; a plain reading over a text's tokens tells what is due. */
    private static void anyTexts(int seed) {
        Random r = new Random(seed);
        String[] words = WORDS.split(" ");
        ColdBox x = new ColdBox();
        for (int i = 0; i < 12; i++) {
            StringBuilder text = new StringBuilder();
            boolean day = r.nextInt(3) == 0;
            int clauses = r.nextInt(day ? 15 : 8);
            for (int k = 0; k < clauses; k++) {
                String word = day && r.nextInt(20) > 0 ? "open" : words[r.nextInt(words.length)];
                text.append(word).append(r.nextInt(3) == 0 ? "" : " ");
                int numbers = word.equals("open") ? 2 : word.equals("stove") ? 3 : 1;
                if (r.nextInt(25) == 0) numbers += r.nextInt(3) - 1;
                for (int n = 0; n < numbers; n++) {
                    text.append(n > 0 ? " " : "");
                    text.append(r.nextInt(30) == 0 ? r.nextInt(2000) : word.equals("open") && n == 0 ? 20 * k + r.nextInt(25) : r.nextInt(12 + 8 * n));
                }
                text.append(r.nextInt(5) == 0 ? " " : "").append(r.nextInt(30) == 0 ? "" : ";").append(r.nextInt(4) == 0 ? "  " : "");
                if (r.nextInt(40) == 0) text.append((char) r.nextInt(256));
            }
            String t = text.length() > 300 ? text.substring(0, 300) : text.toString();
            tell(x, t);
            int got = day ? x.day() : x.box();
            int[] want = read(t, day);
            due((day ? "day " : "box ") + t, want[0], got);
            due("fault of " + t, want[1], x.fault());
        }
    }

    private static int[] read(String t, boolean day) {
        java.util.regex.Matcher m = java.util.regex.Pattern.compile("[a-z]+|[0-9]+|[^ ]", java.util.regex.Pattern.DOTALL).matcher(t);
        List<String> tokens = new ArrayList<>();
        List<Integer> places = new ArrayList<>();
        while (m.find()) {
            tokens.add(m.group());
            places.add(m.start());
        }
        tokens.add("");
        places.add(t.length());
        List<String> told = new ArrayList<>();
        int on = 70, off = 30, last = -1, i = 0;
        while (!tokens.get(i).isEmpty()) {
            String word = tokens.get(i);
            String bounds = boundsOf(word, day);
            if (bounds == null) return new int[] {-11, places.get(i)};
            if (day ? told.size() == 12 : told.contains(word)) return new int[] {-13, places.get(i)};
            told.add(word);
            i++;
            int former = word.equals("open") ? last : -1;
            int index = 0;
            for (String b : bounds.split(",")) {
                String token = tokens.get(i);
                if (!token.matches("[0-9]+")) return new int[] {-11, places.get(i)};
                int low = Integer.parseInt(b.split("-")[0]);
                int high = Integer.parseInt(b.split("-")[1]);
                boolean mustRise = word.equals("open") && index == 0 || word.equals("stove") && index == 1;
                if (token.length() > 3) return new int[] {-12, places.get(i)};
                int v = Integer.parseInt(token);
                if (v < low || v > high || mustRise && v <= former) return new int[] {-12, places.get(i)};
                if (index == 0) former = v;
                if (word.equals("open") && index == 0) last = v;
                if (word.equals("on")) on = v;
                if (word.equals("off")) off = v;
                index++;
                i++;
            }
            if (!tokens.get(i).equals(";")) return new int[] {-11, places.get(i)};
            i++;
        }
        if (!day && off >= on) return new int[] {-14, t.length()};
        return new int[] {told.size(), -1};
    }

    private static String boundsOf(String word, boolean day) {
        if (day) return word.equals("open") ? "0-287,1-20" : null;
        switch (word) {
            case "power": return "1-999";
            case "wall": case "seal": case "mix": case "cold": case "lamp": return "0-99";
            case "food": case "use": return "1-99";
            case "on": case "off": return "0-200";
            case "bulb": return "0-2";
            case "room": return "0-400";
            case "stove": return "0-24,0-24,0-200";
            default: return null;
        }
    }
}
