import java.util.ArrayList;
import java.util.Arrays;
import java.util.HashSet;
import java.util.List;
import java.util.Set;
import java.util.TreeSet;

/** The document once more, as plainly as can be and with nothing in common with TwoBells; ModelTest sets them side by side. */
public final class Model {
    static final int BAD = -1000000001, NO = -1000000002, FULL = -1000000003, NONE = -1000000005;
    static final int NOTHING = -1000000011, KIND = -1000000012, INDEX = -1000000013, SIZE = -1000000014;
    private static final int[] ABOVE = {-1, 0, 0, 1, 2, 0};

    private static final class House {
        int awake, cares;
        Set<Integer> friends = new TreeSet<>();
    }

    private static final class Door {
        int house, worth, noise = 1;
        Integer[] bell = new Integer[2];
    }

    private record Thief(int kind, int house) {
    }

    private record Law(int key, int terms, String text) {
    }

    /** All that an image keeps. */
    private static final class World {
        List<House> houses = new ArrayList<>();
        List<Door> doors = new ArrayList<>();
        List<Thief> thieves = new ArrayList<>();
        List<Law> laws = new ArrayList<>();
        int patience = 3, taken, caught, z = 1;

        World twin() {
            World w = new World();
            for (House h : houses) {
                House g = new House();
                g.awake = h.awake;
                g.cares = h.cares;
                g.friends.addAll(h.friends);
                w.houses.add(g);
            }
            for (Door d : doors) {
                Door e = new Door();
                e.house = d.house;
                e.worth = d.worth;
                e.noise = d.noise;
                e.bell = d.bell.clone();
                w.doors.add(e);
            }
            w.thieves.addAll(thieves);
            w.laws.addAll(laws);
            w.patience = patience;
            w.taken = taken;
            w.caught = caught;
            w.z = z;
            return w;
        }
    }

    private World w = new World();
    private World image = null;
    private final List<Integer> waits = new ArrayList<>();
    private String tape = "";
    // A sheet: its sort, then its places, null where there is no number.
    private final List<Integer>[] sheets = rows(4);
    private final int[] sorts = {-1, -1, -1, -1};
    private final Object[] slots = new Object[5];

    @SuppressWarnings("unchecked")
    private static List<Integer>[] rows(int n) {
        return (List<Integer>[]) new List<?>[n];
    }

    // ---- texts: read and worked out in one go, from the tape's signs

    private static final class Fault extends Exception {
        private static final long serialVersionUID = 1;
        final int place;

        Fault(int place) {
            super("fault", null, false, false);
            this.place = place;
        }
    }

    private static final class Parser {
        final String text;
        final List<String> tokens = new ArrayList<>();
        final List<Integer> places = new ArrayList<>();
        int next = 0, terms = 0, key = -1;
        final int[] values;

        Parser(String text, int... values) {
            this.text = text;
            this.values = values;
            int i = 0;
            while (i < text.length()) {
                if (text.charAt(i) == ' ') {
                    i++;
                    continue;
                }
                String rest = text.substring(i);
                String word = rest.replaceFirst("(?s)^([a-z]+|[0-9]+|.).*$", "$1");
                tokens.add(word);
                places.add(i);
                i += word.length();
            }
        }

        String peek() {
            return next < tokens.size() ? tokens.get(next) : "";
        }

        int place() {
            return next < tokens.size() ? places.get(next) : text.length();
        }

        boolean glued() {
            return next > 0 && places.get(next - 1) + tokens.get(next - 1).length() == place()
                && tokens.get(next - 1).matches("[a-z]+|[0-9]+") && peek().matches("[a-z]+|[0-9]+");
        }

        int whole() throws Fault {
            key = Arrays.asList("come", "gain", "may").indexOf(peek());
            if (key < 0) {
                throw new Fault(place());
            }
            next++;
            int v = or(0, 0);
            if (next < tokens.size()) {
                throw new Fault(place());
            }
            return v;
        }

        int or(int braces, int nots) throws Fault {
            int v = and(braces, nots);
            while (peek().equals("|")) {
                next++;
                int r = and(braces, nots);
                v = v == 0 && r == 0 ? 0 : 1;
            }
            return v;
        }

        int and(int braces, int nots) throws Fault {
            int v = test(braces, nots);
            while (peek().equals("&")) {
                next++;
                int r = test(braces, nots);
                v = v == 0 || r == 0 ? 0 : 1;
            }
            return v;
        }

        int test(int braces, int nots) throws Fault {
            int v = sum(braces, nots);
            String sign = peek();
            if (sign.equals("<") || sign.equals("=") || sign.equals(">")) {
                next++;
                int c = Integer.compare(v, sum(braces, nots));
                v = c == "<=>".indexOf(sign) - 1 ? 1 : 0;
            }
            return v;
        }

        int sum(int braces, int nots) throws Fault {
            int v = term(braces, nots);
            while (peek().equals("+") || peek().equals("-")) {
                boolean plus = tokens.get(next++).equals("+");
                int r = term(braces, nots);
                v = plus ? v + r : v - r;
            }
            return v;
        }

        int term(int braces, int nots) throws Fault {
            int v = piece(braces, nots);
            while (peek().equals("*") || peek().equals("/")) {
                boolean times = tokens.get(next++).equals("*");
                int r = piece(braces, nots);
                v = times ? v * r : r == 0 ? 0 : (int) ((long) v / r);
            }
            return v;
        }

        int piece(int braces, int nots) throws Fault {
            String word = peek();
            if (word.equals("!") && nots < 8) {
                next++;
                return piece(braces, nots + 1) == 0 ? 1 : 0;
            }
            if (word.equals("(") && braces < 8) {
                next++;
                int v = or(braces + 1, nots);
                if (!peek().equals(")")) {
                    throw new Fault(place());
                }
                next++;
                return v;
            }
            boolean number = word.matches("[0-9]{1,4}");
            int name = word.matches("[a-z]") ? new String[] {"aclp", "wm", "pqo"}[key].indexOf(word) : -1;
            if (glued() || !number && name < 0) {
                throw new Fault(place());
            }
            next++;
            terms++;
            return number ? Integer.parseInt(word) : name < values.length ? values[name] : 0;
        }
    }

    private static Integer law(World w, int key, int... values) {
        Integer v = null;
        for (Law law : w.laws) {
            if (law.key() == key) {
                try {
                    v = new Parser(law.text(), values).whole();
                } catch (Fault f) {
                    throw new IllegalStateException(law.text());
                }
            }
        }
        return v;
    }

    // ---- what the terms say

    private static int hold(int v, int most) {
        return v < 0 ? 0 : v > most ? most : v;
    }

    private static int load(World w, int house) {
        int n = 0;
        for (Door d : w.doors) {
            for (Integer b : d.bell) {
                n += b != null && b == house ? 1 : 0;
            }
        }
        return n;
    }

    private static int comes(World w, int house) {
        House h = w.houses.get(house);
        int load = load(w, house);
        Integer told = law(w, 0, h.awake, h.cares, load, w.patience);
        int plain = h.awake * h.cares / 100 - (load > w.patience ? 10 * (load - w.patience) : 0);
        return hold(told == null ? plain : told, 100);
    }

    private static int heedAs(World w, Thief t, int kind, int house) {
        switch (kind) {
            case 0: return comes(w, house);
            case 2: return heedAs(w, t, 0, house) / 2;
            case 5: return hold(heedAs(w, t, 0, house) - 30, 100);
            case 3:
                boolean his = house == t.house() || w.houses.get(t.house()).friends.contains(house);
                return his ? 0 : heedAs(w, t, 1, house);
            default: return heedAs(w, t, ABOVE[kind], house);
        }
    }

    private static int missed(World w, Thief t, Door d) {
        int one = d.bell[0] == null ? 100 : 100 - heedAs(w, t, t.kind(), d.bell[0]);
        int other = d.bell[1] == null ? 100 : 100 - heedAs(w, t, t.kind(), d.bell[1]);
        return one * other;
    }

    private static int gain(World w, Thief t, Door d) {
        int missed = missed(w, t, d);
        Integer told = law(w, 1, d.worth, missed);
        return hold(told == null ? d.worth * missed / 10000 : told, 99999);
    }

    private static int draw(World w) {
        w.z = w.z * 1103515245 + 12345;
        return w.z >>> 8;
    }

    private static int chosen(World w, Thief t) {
        List<Integer> shut = new ArrayList<>();
        for (int d = 0; d < w.doors.size(); d++) {
            if (w.doors.get(d).house != t.house()) {
                shut.add(d);
            }
        }
        if (shut.isEmpty()) {
            return NONE;
        }
        if (t.kind() == 1 || t.kind() == 3 || t.kind() == 4) {
            int best = shut.get(0);
            for (int d : shut) {
                int v = t.kind() == 4 ? w.doors.get(d).worth : gain(w, t, w.doors.get(d));
                int b = t.kind() == 4 ? w.doors.get(best).worth : gain(w, t, w.doors.get(best));
                best = v > b ? d : best;
            }
            return best;
        }
        int from = draw(w) % w.doors.size();
        while (!shut.contains(from)) {
            from = (from + 1) % w.doors.size();
        }
        return from;
    }

    private static void night(World w) {
        for (Thief t : w.thieves) {
            int d = chosen(w, t);
            if (d != NONE) {
                if (draw(w) % 10000 < missed(w, t, w.doors.get(d))) {
                    w.taken += w.doors.get(d).worth;
                } else {
                    w.caught++;
                }
            }
        }
    }

    private static int worthAs(Thief t, int kind) {
        switch (kind) {
            case 0: return t.house();
            case 1: return worthAs(t, 0) + 10;
            case 2: return worthAs(t, 0) - 1;
            case 3: return 2 * worthAs(t, 1);
            case 4: return worthAs(t, 2) + 20;
            default: return 30;
        }
    }

    private static boolean under(int kind, int wanted) {
        return kind == wanted || kind >= 0 && under(ABOVE[kind], wanted);
    }

    private static boolean lawful(World w, Door d, Integer one, Integer other) {
        if (one == null || other == null || one.equals(other) || one == d.house || other == d.house) {
            return false;
        }
        if (w.houses.get(one).friends.contains(other)) {
            return false;
        }
        Integer told = law(w, 2, Math.min(one, other), Math.max(one, other), d.house);
        return told == null || told != 0;
    }

    private int[] pairOf(Door d) {
        Integer[] bells = d.bell;
        d.bell = new Integer[2];
        int[] best = null;
        int least = Integer.MAX_VALUE;
        for (int p = 0; p < w.houses.size(); p++) {
            for (int q = p + 1; q < w.houses.size(); q++) {
                int loads = load(w, p) + load(w, q);
                if (lawful(w, d, p, q) && loads < least) {
                    least = loads;
                    best = new int[] {p, q};
                }
            }
        }
        d.bell = bells;
        return best;
    }

    private static Set<Integer> bells(Door d) {
        Set<Integer> s = new HashSet<>(Arrays.asList(d.bell));
        s.remove(null);
        return s;
    }

    private boolean noHouse(int h) {
        return h < 0 || h >= w.houses.size();
    }

    private boolean noDoor(int d) {
        return d < 0 || d >= w.doors.size();
    }

    private boolean noThief(int t) {
        return t < 0 || t >= w.thieves.size();
    }

    private static boolean out(int v, int least, int most) {
        return v < least || v > most;
    }

    private static int told(Integer bell) {
        return bell == null ? NONE : bell;
    }

    // ---- the calls

    public int house(int awake, int cares) {
        if (out(awake, 0, 100) || out(cares, 0, 100)) {
            return BAD;
        }
        if (w.houses.size() == 10) {
            return FULL;
        }
        House h = new House();
        h.awake = awake;
        h.cares = cares;
        w.houses.add(h);
        return w.houses.size() - 1;
    }

    public int houseTold(int house, int what) {
        if (noHouse(house) || out(what, 0, 5)) {
            return BAD;
        }
        House h = w.houses.get(house);
        int hears = 0;
        for (Door d : w.doors) {
            for (Integer b : d.bell) {
                hears += b != null && b == house ? d.noise : 0;
            }
        }
        int bits = 0;
        for (int f : h.friends) {
            bits += 1 << f;
        }
        return new int[] {h.awake, h.cares, load(w, house), hears, comes(w, house), bits}[what];
    }

    public int change(int house, int what, int v) {
        if (noHouse(house) || out(what, 0, 1) || out(v, 0, 100)) {
            return BAD;
        }
        House h = w.houses.get(house);
        int was = what == 0 ? h.awake : h.cares;
        if (what == 0) {
            h.awake = v;
        } else {
            h.cares = v;
        }
        return was;
    }

    public int agree(int one, int other, int v) {
        if (noHouse(one) || noHouse(other) || one == other || out(v, 0, 1)) {
            return BAD;
        }
        int was = w.houses.get(one).friends.contains(other) ? 1 : 0;
        w.houses.get(one).friends.remove(other);
        w.houses.get(other).friends.remove(one);
        if (v == 1) {
            w.houses.get(one).friends.add(other);
            w.houses.get(other).friends.add(one);
        }
        return was;
    }

    public int patience(int v) {
        if (out(v, 0, 24)) {
            return BAD;
        }
        int was = w.patience;
        w.patience = v;
        return was;
    }

    public int deal(int n) {
        if (out(n, 1, 10)) {
            return BAD;
        }
        int came = 0;
        for (; came < n && w.houses.size() < 10; came++) {
            int awake = draw(w) % 101;
            house(awake, draw(w) % 101);
        }
        return came;
    }

    public int door(int house, int worth) {
        if (noHouse(house) || out(worth, 0, 999)) {
            return BAD;
        }
        if (w.doors.size() == 12) {
            return FULL;
        }
        Door d = new Door();
        d.house = house;
        d.worth = worth;
        w.doors.add(d);
        return w.doors.size() - 1;
    }

    public int doorTold(int door, int what) {
        if (noDoor(door) || out(what, 0, 5)) {
            return BAD;
        }
        Door d = w.doors.get(door);
        int lawful = lawful(w, d, d.bell[0], d.bell[1]) ? 1 : 0;
        return new int[] {d.house, d.worth, d.noise, told(d.bell[0]), told(d.bell[1]), lawful}[what];
    }

    public int set(int door, int what, int v) {
        if (noDoor(door) || out(what, 1, 2) || out(v, 0, what == 1 ? 999 : 9)) {
            return BAD;
        }
        Door d = w.doors.get(door);
        int was = what == 1 ? d.worth : d.noise;
        if (what == 1) {
            d.worth = v;
        } else {
            d.noise = v;
        }
        return was;
    }

    public int wire(int door, int bell, int house) {
        if (noDoor(door) || out(bell, 0, 1) || house != NONE && noHouse(house)) {
            return BAD;
        }
        int was = told(w.doors.get(door).bell[bell]);
        w.doors.get(door).bell[bell] = house == NONE ? null : (Integer) house;
        return was;
    }

    public int thief(int kind, int house) {
        if (out(kind, 0, 5) || noHouse(house)) {
            return BAD;
        }
        if (w.thieves.size() == 6) {
            return FULL;
        }
        w.thieves.add(new Thief(kind, house));
        return w.thieves.size() - 1;
    }

    public int told(int thief, int what) {
        if (noThief(thief) || out(what, 0, 2)) {
            return BAD;
        }
        Thief t = w.thieves.get(thief);
        return new int[] {t.kind(), t.house(), worthAs(t, t.kind())}[what];
    }

    public int as(int thief, int kind) {
        if (noThief(thief) || out(kind, 0, 5)) {
            return BAD;
        }
        return under(w.thieves.get(thief).kind(), kind) ? w.thieves.get(thief).house() : KIND;
    }

    public int turns(int thief, int kind) {
        if (noThief(thief) || out(kind, 0, 5)) {
            return BAD;
        }
        return w.thieves.set(thief, new Thief(kind, w.thieves.get(thief).house())).kind();
    }

    public int at(int thief, int door, int what) {
        if (noThief(thief) || noDoor(door) || out(what, 0, 2)) {
            return BAD;
        }
        Thief t = w.thieves.get(thief);
        Door d = w.doors.get(door);
        return what == 0 ? missed(w, t, d) : what == 1 ? gain(w, t, d) : d.house == t.house() ? 1 : 0;
    }

    public int heed(int thief, int house) {
        if (noThief(thief) || noHouse(house)) {
            return BAD;
        }
        return heedAs(w, w.thieves.get(thief), w.thieves.get(thief).kind(), house);
    }

    public int choice(int thief) {
        return noThief(thief) ? BAD : chosen(w, w.thieves.get(thief));
    }

    public int nights(int n) {
        if (out(n, 1, 60)) {
            return BAD;
        }
        for (int i = 0; i < n; i++) {
            night(w);
        }
        return w.taken;
    }

    public int seed(int v) {
        int was = w.z;
        w.z = v;
        return was;
    }

    public int pair(int door) {
        if (noDoor(door)) {
            return BAD;
        }
        int[] best = pairOf(w.doors.get(door));
        return best == null ? NONE : 100 * best[0] + best[1];
    }

    public int wiring() {
        for (Door d : w.doors) {
            int[] best = pairOf(d);
            d.bell[0] = best == null ? null : (Integer) best[0];
            d.bell[1] = best == null ? null : (Integer) best[1];
        }
        return w.doors.size() - unlawful(0);
    }

    public int unlawful(int what) {
        if (out(what, 0, 1)) {
            return BAD;
        }
        List<Integer> those = new ArrayList<>();
        for (Door d : w.doors) {
            if (!lawful(w, d, d.bell[0], d.bell[1])) {
                those.add(w.doors.indexOf(d));
            }
        }
        return what == 0 ? those.size() : those.isEmpty() ? NONE : those.get(0);
    }

    public int worst(int what) {
        if (out(what, 0, 2)) {
            return BAD;
        }
        int[] worst = null;
        for (int t = 0; t < w.thieves.size(); t++) {
            for (int d = 0; d < w.doors.size(); d++) {
                if (w.doors.get(d).house != w.thieves.get(t).house()) {
                    int gain = gain(w, w.thieves.get(t), w.doors.get(d));
                    worst = worst == null || gain > worst[2] ? new int[] {t, d, gain} : worst;
                }
            }
        }
        return worst == null ? NONE : worst[what];
    }

    public int heard(int set) {
        if (set < 0 || set >= 1 << w.houses.size()) {
            return BAD;
        }
        int bits = 0;
        for (int d = 0; d < w.doors.size(); d++) {
            boolean hears = false;
            for (int b : bells(w.doors.get(d))) {
                hears |= (set >> b & 1) == 1;
            }
            bits += hears ? 1 << d : 0;
        }
        return bits;
    }

    public int fewest() {
        for (int size = 0; size <= 10; size++) {
            for (int set = 0; set < 1 << w.houses.size(); set++) {
                boolean all = Integer.bitCount(set) == size;
                int heard = heard(set);
                for (int d = 0; d < w.doors.size() && all; d++) {
                    all = bells(w.doors.get(d)).isEmpty() || (heard >> d & 1) == 1;
                }
                if (all) {
                    return set;
                }
            }
        }
        return -1;
    }

    public int alike() {
        int n = 0;
        for (Door d : w.doors) {
            for (Door e : w.doors) {
                n += d != e && bells(d).equals(bells(e)) ? 1 : 0;
            }
        }
        return n / 2;
    }

    public int feed(int a, int b, int c) {
        if (tape.length() + 12 > 96) {
            return FULL;
        }
        StringBuilder s = new StringBuilder(tape);
        for (int v : new int[] {a, b, c}) {
            s.append((char) (v >>> 24)).append((char) (v >> 16 & 255)).append((char) (v >> 8 & 255)).append((char) (v & 255));
        }
        tape = s.toString();
        return tape.length();
    }

    public int trim(int n) {
        if (out(n, 0, tape.length())) {
            return BAD;
        }
        tape = tape.substring(0, n);
        return n;
    }

    public int text() {
        String text = tape;
        tape = "";
        Parser p = new Parser(text, 0, 0, 0, 0);
        try {
            p.whole();
        } catch (Fault f) {
            return -100 - f.place;
        }
        if (w.laws.size() == 14) {
            return FULL;
        }
        w.laws.add(new Law(p.key, p.terms, text));
        return w.laws.size() - 1;
    }

    public int textTold(int text, int what) {
        if (out(text, 0, w.laws.size() - 1) || out(what, 0, 1)) {
            return BAD;
        }
        return what == 0 ? w.laws.get(text).key() : w.laws.get(text).terms();
    }

    public int why(int key) {
        if (out(key, 0, 2)) {
            return BAD;
        }
        int last = NONE;
        for (int i = 0; i < w.laws.size(); i++) {
            last = w.laws.get(i).key() == key ? i : last;
        }
        return last;
    }

    public int sheet(int sheet, int sort, int n) {
        if (out(sheet, 0, 3) || out(sort, -1, 1) || sort >= 0 && n > 24) {
            return BAD;
        }
        if (sort >= 0 && n < 0) {
            return SIZE;
        }
        sorts[sheet] = sort;
        sheets[sheet] = sort < 0 ? null : new ArrayList<>();
        for (int i = 0; i < n && sort >= 0; i++) {
            sheets[sheet].add(0);
        }
        return sort < 0 ? 0 : n;
    }

    public int mark(int sheet, int place, int v) {
        if (out(sheet, 0, 3)) {
            return BAD;
        }
        if (sheets[sheet] == null) {
            return NOTHING;
        }
        if (out(place, 0, sheets[sheet].size() - 1)) {
            return INDEX;
        }
        if (sorts[sheet] == 0) {
            if (v == NONE) {
                return KIND;
            }
            sheets[sheet].set(place, v << 16 >> 16);
            return 1;
        }
        if (v != NONE && out(v, -99999, 99999)) {
            return BAD;
        }
        sheets[sheet].set(place, v == NONE ? null : (Integer) v);
        return 1;
    }

    public int pour(int sheet) {
        if (out(sheet, 0, 3)) {
            return BAD;
        }
        if (sheets[sheet] == null) {
            return NOTHING;
        }
        int elsewhere = 0;
        int place = 0;
        for (Door d : w.doors) {
            for (int b = 0; b < 2 && place < sheets[sheet].size(); b++) {
                Integer to = sheets[sheet].get(place++);
                to = to == null || noHouse(to) ? null : to;
                elsewhere += told(to) == told(d.bell[b]) ? 0 : 1;
                d.bell[b] = to;
            }
        }
        return elsewhere;
    }

    public int reads(int sheet) {
        if (out(sheet, 0, 3)) {
            return BAD;
        }
        if (sheets[sheet] == null) {
            return NOTHING;
        }
        int place = 0;
        for (Integer v : sheets[sheet]) {
            if (v != null && (noHouse(place) || load(w, place) != v)) {
                return place;
            }
            place++;
        }
        return NONE;
    }

    public int copy(int from, int place, int to, int at, int many) {
        if (out(from, 0, 3) || out(to, 0, 3)) {
            return BAD;
        }
        if (sheets[from] == null || sheets[to] == null) {
            return NOTHING;
        }
        if (sorts[from] != sorts[to]) {
            return KIND;
        }
        if (place < 0 || at < 0 || many < 0 || (long) place + many > sheets[from].size() || (long) at + many > sheets[to].size()) {
            return INDEX;
        }
        List<Integer> those = new ArrayList<>(sheets[from].subList(place, place + many));
        for (int i = 0; i < many; i++) {
            sheets[to].set(at + i, those.get(i));
        }
        return many;
    }

    private static int sortOf(Object held) {
        return held == null ? 0 : held instanceof Thief ? 1 : held instanceof List ? 2 : 3;
    }

    public int lay(int slot, int thing, int k) {
        if (out(slot, 0, 4) || out(thing, 0, 3) || thing == 1 && noThief(k) || thing == 2 && out(k, 0, 3)) {
            return BAD;
        }
        if (thing == 2 && sheets[k] == null) {
            return NOTHING;
        }
        int held = sortOf(slots[slot]);
        slots[slot] = thing == 0 ? null : thing == 1 ? w.thieves.get(k) : thing == 2 ? new ArrayList<>(sheets[k]) : (Object) k;
        return held;
    }

    public int ask(int slot, int kind) {
        if (out(slot, 0, 4) || out(kind, 0, 5)) {
            return BAD;
        }
        if (slots[slot] == null) {
            return NOTHING;
        }
        return slots[slot] instanceof Thief t && under(t.kind(), kind) ? worthAs(t, t.kind()) : KIND;
    }

    public int item(int slot, int place) {
        if (out(slot, 0, 4)) {
            return BAD;
        }
        if (slots[slot] == null) {
            return NOTHING;
        }
        if (!(slots[slot] instanceof List<?> row)) {
            return KIND;
        }
        if (out(place, 0, row.size() - 1)) {
            return INDEX;
        }
        return row.get(place) == null ? KIND : (Integer) row.get(place);
    }

    public int rest(int slot, int n) {
        if (out(slot, 0, 4)) {
            return BAD;
        }
        if (slots[slot] == null) {
            return NOTHING;
        }
        if (!(slots[slot] instanceof Integer v)) {
            return KIND;
        }
        return n == 0 ? NO : (int) ((long) v % n);
    }

    public int tell(int v) {
        if (waits.size() == 60) {
            return FULL;
        }
        waits.add(v);
        return waits.size();
    }

    public int check(int n) {
        List<Integer> told = new ArrayList<>(waits);
        waits.clear();
        if (out(n, 1, 30)) {
            return BAD;
        }
        if (image == null) {
            return NO;
        }
        World other = image.twin();
        List<Integer> want = new ArrayList<>();
        for (int i = 0; i < n; i++) {
            night(other);
            want.add(other.taken);
            want.add(other.caught);
        }
        if (told.equals(want)) {
            return 0;
        }
        int right = 0;
        while (right < told.size() && right < want.size() && told.get(right).equals(want.get(right))) {
            right++;
        }
        return 1 + right;
    }

    public int keep() {
        image = w.twin();
        return w.doors.size();
    }

    public int back() {
        if (image == null) {
            return NO;
        }
        w = image.twin();
        return w.doors.size();
    }

    public int count(int what) {
        int[] all = {w.houses.size(), w.doors.size(), w.thieves.size(), w.taken, w.caught, w.patience, w.laws.size(), waits.size(), tape.length(), w.z};
        return out(what, 0, 9) ? BAD : all[what];
    }
}
