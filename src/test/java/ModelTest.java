import java.lang.reflect.Method;
import java.util.ArrayList;
import java.util.Comparator;
import java.util.List;
import java.util.Random;

/** Long runs of calls by lot (always the same ones) on TwoBells and on Model: all answers are the same. */
public final class ModelTest {
    private static final Due due = new Due("ModelTest");
    private static final int RUNS = 400, CALLS = 420;
    private static final int[] EDGES = {-1, 0, 1, 2, 24, 25, 60, 61, 96, 97, 100, 101, 999, 1000, 99999, 100000, -99999, -100000,
        32767, 32768, Due.BAD, Due.NO, Due.NONE, Integer.MIN_VALUE, Integer.MAX_VALUE};

    private static final List<Method> calls = new ArrayList<>();
    private static final List<Method> twins = new ArrayList<>();

    public static void main(String[] args) throws ReflectiveOperationException {
        for (Method m : TwoBells.class.getDeclaredMethods()) {
            if (m.getModifiers() == java.lang.reflect.Modifier.PUBLIC) {
                calls.add(m);
            }
        }
        calls.sort(Comparator.comparing(Method::getName));
        for (Method m : calls) {
            twins.add(Model.class.getMethod(m.getName(), m.getParameterTypes()));
        }
        due.is("calls", 45, calls.size());
        for (int run = 0; run < RUNS; run++) {
            run(run);
        }
        due.end();
    }

    private static void run(int number) throws ReflectiveOperationException {
        Random lot = new Random(number);
        TwoBells x = new TwoBells();
        Model y = new Model();
        // Some runs begin with a full town, some with an empty one.
        if (number % 3 != 0) {
            begin(lot, x, y);
        }
        // Some runs are mostly of sound calls.
        int sound = new int[] {70, 95, 99}[number % 3];
        for (int i = 0; i < CALLS; i++) {
            if (lot.nextInt(14) == 0) {
                tellText(lot, x, y, number);
                i += 9;
            } else if (lot.nextInt(40) == 0) {
                tellNights(lot, x, y, number);
                i += 9;
            } else {
                int c = lot.nextInt(calls.size());
                String name = calls.get(c).getName();
                if ((name.equals("deal") || name.equals("back") || name.equals("check")) && lot.nextInt(3) > 0) {
                    continue;
                }
                Object[] with = new Object[calls.get(c).getParameterCount()];
                for (int a = 0; a < with.length; a++) {
                    with[a] = lot.nextInt(100) < sound ? sound(lot, name, a) : EDGES[lot.nextInt(EDGES.length)];
                }
                same(number, c, x, y, with);
            }
        }
    }

    private static void same(int run, int c, TwoBells x, Model y, Object... with) throws ReflectiveOperationException {
        int want = (Integer) twins.get(c).invoke(y, with);
        int got = (Integer) calls.get(c).invoke(x, with);
        due.is("run " + run + ": " + calls.get(c).getName() + java.util.Arrays.toString(with), want, got);
    }

    private static int index(String name) {
        for (int c = 0; c < calls.size(); c++) {
            if (calls.get(c).getName().equals(name)) {
                return c;
            }
        }
        return -1;
    }

    private static void begin(Random lot, TwoBells x, Model y) throws ReflectiveOperationException {
        int houses = 2 + lot.nextInt(9);
        same(-1, index("seed"), x, y, lot.nextInt());
        same(-1, index("deal"), x, y, houses);
        for (int i = lot.nextInt(13); i > 0; i--) {
            same(-1, index("door"), x, y, lot.nextInt(houses), lot.nextInt(1000));
        }
        for (int i = lot.nextInt(7); i > 0; i--) {
            same(-1, index("thief"), x, y, lot.nextInt(6), lot.nextInt(houses));
        }
    }

    /** A number that such a call can mostly use at such a place. */
    private static int sound(Random lot, String name, int place) {
        switch (name) {
            case "house": case "patience": return lot.nextInt(name.equals("house") ? 101 : 25);
            case "houseTold": case "doorTold": return lot.nextInt(place == 0 ? 10 : 6);
            case "change": return lot.nextInt(new int[] {10, 2, 101}[place]);
            case "agree": return lot.nextInt(place < 2 ? 10 : 2);
            case "deal": return 1 + lot.nextInt(3);
            case "door": return lot.nextInt(place == 0 ? 10 : 1000);
            case "set": return place == 0 ? lot.nextInt(12) : place == 1 ? 1 + lot.nextInt(2) : lot.nextInt(lot.nextBoolean() ? 10 : 1000);
            case "wire": return place < 2 ? lot.nextInt(place == 0 ? 12 : 2) : lot.nextInt(5) == 0 ? Due.NONE : lot.nextInt(10);
            case "thief": return lot.nextInt(place == 0 ? 6 : 10);
            case "told": return lot.nextInt(place == 0 ? 6 : 3);
            case "as": case "turns": return lot.nextInt(6);
            case "at": return lot.nextInt(new int[] {6, 12, 3}[place]);
            case "heed": return lot.nextInt(place == 0 ? 6 : 10);
            case "nights": return 1 + lot.nextInt(6);
            case "heard": return lot.nextInt(1024);
            case "feed": return lot.nextInt();
            case "sheet": return place == 0 ? lot.nextInt(4) : place == 1 ? lot.nextInt(12) == 0 ? -1 : lot.nextInt(2) : lot.nextInt(25);
            case "mark": return lot.nextInt(new int[] {4, 12, 12}[place]);
            case "copy": return lot.nextInt(place % 2 == 0 && place < 4 ? 4 : 8);
            case "lay": return lot.nextInt(place == 0 ? 5 : 4);
            case "ask": case "item": case "rest": return lot.nextInt(place == 0 ? 5 : 6);
            case "textTold": return lot.nextInt(place == 0 ? 8 : 2);
            case "trim": return lot.nextInt(20);
            case "count": return lot.nextInt(10);
            case "choice": return lot.nextInt(6);
            default: return lot.nextInt(4);
        }
    }

    private static void tellText(Random lot, TwoBells x, Model y, int run) throws ReflectiveOperationException {
        String names = "come gain may";
        String key = names.split(" ")[lot.nextInt(3)];
        StringBuilder s = new StringBuilder(key).append(' ');
        expression(lot, s, key.equals("come") ? "aclp" : key.equals("gain") ? "wm" : "pqo", 0);
        for (int i = lot.nextInt(3) - 1; i > 0; i--) {
            spoil(lot, s);
        }
        s.setLength(Math.min(96, s.length()));
        int size = s.length();
        while (s.length() % 12 != 0) {
            s.append(' ');
        }
        same(run, index("trim"), x, y, 0);
        for (int i = 0; i < s.length(); i += 12) {
            Object[] three = new Object[3];
            for (int k = 0; k < 3; k++) {
                int at = i + 4 * k;
                three[k] = s.charAt(at) << 24 | s.charAt(at + 1) << 16 | s.charAt(at + 2) << 8 | s.charAt(at + 3);
            }
            same(run, index("feed"), x, y, three);
        }
        same(run, index("trim"), x, y, size);
        same(run, index("text"), x, y);
    }

    private static void expression(Random lot, StringBuilder s, String names, int depth) {
        int pieces = 1 + lot.nextInt(4);
        for (int i = 0; i < pieces; i++) {
            if (i > 0) {
                s.append("|&<=>+-*/+-*/".charAt(lot.nextInt(13)));
            }
            for (int b = lot.nextInt(4) - 2; b > 0; b--) {
                s.append(' ');
            }
            for (int n = lot.nextInt(6) - 4; n > 0; n--) {
                s.append('!');
            }
            if (depth < 10 && lot.nextInt(3) == 0) {
                s.append('(');
                expression(lot, s, names, depth + 1);
                s.append(')');
            } else if (lot.nextInt(2) == 0) {
                s.append(lot.nextInt(lot.nextBoolean() ? 12 : 10000));
            } else {
                s.append(names.charAt(lot.nextInt(names.length())));
            }
        }
    }

    private static void spoil(Random lot, StringBuilder s) {
        String signs = "acmowpq019()!<=>+-*/&| \0\377\t.A";
        int at = lot.nextInt(s.length());
        switch (lot.nextInt(3)) {
            case 0: s.setCharAt(at, signs.charAt(lot.nextInt(signs.length()))); break;
            case 1: s.insert(at, signs.charAt(lot.nextInt(signs.length()))); break;
            default: s.deleteCharAt(at); break;
        }
        if (s.length() == 0) {
            s.append('x');
        }
    }

    /** Keeps, goes on for some nights, tells what came, mostly right, and has it checked. */
    private static void tellNights(Random lot, TwoBells x, Model y, int run) throws ReflectiveOperationException {
        same(run, index("check"), x, y, 0);
        same(run, index("keep"), x, y);
        int n = 1 + lot.nextInt(4);
        int wrong = lot.nextInt(12);
        for (int i = 0; i < n; i++) {
            int taken = y.nights(1);
            due.is("run " + run + ": nights(1)", taken, x.nights(1));
            same(run, index("tell"), x, y, taken + (wrong == 2 * i ? 1 : 0));
            same(run, index("tell"), x, y, y.count(4) + (wrong == 2 * i + 1 ? 1 : 0));
        }
        same(run, index("check"), x, y, n + (lot.nextInt(5) == 0 ? lot.nextInt(3) - 1 : 0));
    }
}
