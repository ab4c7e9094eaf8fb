/** Promises 12 to 20: thieves of all kinds, nights, the seed. */
public final class ThievesTest {
    private static final Due due = new Due("ThievesTest");
    private static final int MIN = Integer.MIN_VALUE, MAX = Integer.MAX_VALUE;
    // Of each kind those that it is of: itself and those above it.
    private static final int[][] OF = {{0}, {0, 1}, {0, 2}, {0, 1, 3}, {0, 2, 4}, {0, 5}};

    public static void main(String[] args) {
        thief();
        told();
        as();
        turns();
        at();
        heed();
        choice();
        choiceByLot();
        choiceOfMany();
        nights();
        nightsAtTheEdge();
        seed();
        due.end();
    }

    private static boolean isOf(int kind, int wanted) {
        for (int k : OF[kind]) {
            if (k == wanted) {
                return true;
            }
        }
        return false;
    }

    private static void thief() {
        TwoBells x = new TwoBells();
        due.is("12: no house", Due.BAD, x.thief(0, 0));
        x.house(1, 1);
        int[][] bad = {{-1, 0}, {6, 0}, {0, -1}, {0, 1}, {MIN, 0}, {0, MAX}};
        for (int[] b : bad) {
            due.is("12: bad", Due.BAD, x.thief(b[0], b[1]));
        }
        for (int i = 0; i < 6; i++) {
            due.is("12: number", i, x.thief(i, 0));
        }
        due.is("12: bad ahead of full", Due.BAD, x.thief(6, 0));
        due.is("12: full", Due.FULL, x.thief(0, 0));
        due.is("12: six", 6, x.count(2));
    }

    private static void told() {
        int[] worthAt4 = {4, 14, 3, 28, 23, 30};
        int[] worthAt0 = {0, 10, -1, 20, 19, 30};
        TwoBells x = Due.town(5);
        TwoBells y = Due.town(1);
        for (int kind = 0; kind < 6; kind++) {
            x.thief(kind, 4);
            y.thief(kind, 0);
            due.is("13: kind", kind, x.told(kind, 0));
            due.is("13: house", 4, x.told(kind, 1));
            due.is("13: worth of kind " + kind, worthAt4[kind], x.told(kind, 2));
            due.is("13: worth of kind " + kind, worthAt0[kind], y.told(kind, 2));
        }
        for (int t : new int[] {-1, 6, MIN, MAX}) {
            due.is("13: bad thief", Due.BAD, x.told(t, 0));
        }
        for (int w : new int[] {-1, 3, MIN, MAX}) {
            due.is("13: bad what", Due.BAD, x.told(0, w));
        }
    }

    private static void as() {
        TwoBells x = Due.town(3);
        for (int kind = 0; kind < 6; kind++) {
            x.thief(kind, 2);
            for (int wanted = 0; wanted < 6; wanted++) {
                due.is("14: " + kind + " as " + wanted, isOf(kind, wanted) ? 2 : Due.KIND, x.as(kind, wanted));
            }
        }
        int[][] bad = {{-1, 0}, {6, 0}, {0, -1}, {0, 6}, {MIN, MAX}};
        for (int[] b : bad) {
            due.is("14: bad", Due.BAD, x.as(b[0], b[1]));
        }
    }

    private static void turns() {
        TwoBells x = Due.town(2);
        x.thief(0, 1);
        int was = 0;
        for (int kind : new int[] {3, 3, 4, 5, 1, 2, 0, 5}) {
            due.is("15: was", was, x.turns(0, kind));
            due.is("15: is", kind, x.told(0, 0));
            due.is("15: house stays", 1, x.told(0, 1));
            was = kind;
        }
        due.is("15: worth of now", 30, x.told(0, 2));
        int[][] bad = {{-1, 0}, {1, 0}, {0, -1}, {0, 6}, {MIN, 0}, {0, MAX}};
        for (int[] b : bad) {
            due.is("15: bad", Due.BAD, x.turns(b[0], b[1]));
        }
        due.is("15: unchanged", 5, x.told(0, 0));
        due.is("15: none more", 1, x.count(2));
    }

    private static TwoBells street() {
        TwoBells x = new TwoBells();
        x.house(80, 50);   // comes 40
        x.house(61, 100);  // 61
        x.house(20, 100);  // 20
        x.house(95, 100);  // 95
        x.door(0, 999);
        x.wire(0, 0, 1);
        x.wire(0, 1, 2);
        for (int kind = 0; kind < 6; kind++) {
            x.thief(kind, 3);
        }
        return x;
    }

    private static void at() {
        TwoBells x = street();
        int[] missed = {39 * 80, 39 * 80, 70 * 90, 39 * 80, 70 * 90, 69 * 100};
        for (int t = 0; t < 6; t++) {
            due.is("16: missed by kind " + t, missed[t], x.at(t, 0, 0));
            due.is("16: gain of kind " + t, 999 * missed[t] / 10000, x.at(t, 0, 1));
            due.is("16: not open", 0, x.at(t, 0, 2));
        }
        x.agree(1, 3, 1);
        due.is("16: near, they agree", 100 * 80, x.at(3, 0, 0));
        due.is("16: knowing, it is the same", 39 * 80, x.at(1, 0, 0));
        x.wire(0, 1, Due.NONE);
        due.is("16: 100 for none", 39 * 100, x.at(0, 0, 0));
        x.wire(0, 0, Due.NONE);
        due.is("16: nobody comes", 10000, x.at(0, 0, 0));
        due.is("16: gains all", 999, x.at(0, 0, 1));
        x.door(3, 10);
        due.is("16: open", 1, x.at(0, 1, 2));
        due.is("16: missed at an open one", 10000, x.at(0, 1, 0));
        due.is("16: gain at an open one", 10, x.at(0, 1, 1));
        x.wire(1, 0, 1);
        x.wire(1, 1, 1);
        due.is("16: both bells in one house", 39 * 39, x.at(0, 1, 0));
        due.is("16: gain is cut", 1, x.at(0, 1, 1));
        int[][] bad = {{-1, 0, 0}, {6, 0, 0}, {0, -1, 0}, {0, 2, 0}, {0, 0, -1}, {0, 0, 3}, {MIN, 0, 0}, {0, MAX, 1}, {0, 0, MAX}};
        for (int[] b : bad) {
            due.is("16: bad", Due.BAD, x.at(b[0], b[1], b[2]));
        }
    }

    private static void heed() {
        TwoBells x = street();
        int[][] want = {{40, 61, 20, 95}, {40, 61, 20, 95}, {20, 30, 10, 47}, {40, 61, 20, 0}, {20, 30, 10, 47}, {10, 31, 0, 65}};
        for (int t = 0; t < 6; t++) {
            for (int h = 0; h < 4; h++) {
                due.is("17: heed of " + h + " for kind " + t, want[t][h], x.heed(t, h));
            }
        }
        x.agree(3, 0, 1);
        due.is("17: near, agrees with his own", 0, x.heed(3, 0));
        due.is("17: near, the others", 61, x.heed(3, 1));
        x.agree(1, 2, 1);
        due.is("17: near, they agree, not with his", 61, x.heed(3, 1));
        int[][] bad = {{-1, 0}, {6, 0}, {0, -1}, {0, 4}, {MIN, 0}, {0, MAX}};
        for (int[] b : bad) {
            due.is("17: bad", Due.BAD, x.heed(b[0], b[1]));
        }
    }

    private static void choice() {
        TwoBells x = Due.town(4);
        for (int t = 0; t < 6; t++) {
            x.thief(t, 0);
            due.is("18: no doors", Due.NONE, x.choice(t));
        }
        x.door(0, 900);
        x.door(0, 999);
        for (int t = 0; t < 6; t++) {
            due.is("18: all open", Due.NONE, x.choice(t));
        }
        due.is("18: without a draw", 1, x.count(9));
        x.door(1, 300);
        x.door(2, 500);
        x.door(3, 500);
        x.door(1, 300);
        due.is("18: knowing, first of the greatest", 3, x.choice(1));
        due.is("18: near", 3, x.choice(3));
        due.is("18: quick", 3, x.choice(4));
        x.wire(3, 0, 1);
        x.wire(4, 0, 1);
        x.wire(4, 1, 2);
        due.is("18: knowing weighs gain", 2, x.choice(1));
        due.is("18: quick weighs worth", 3, x.choice(4));
        x.agree(0, 1, 1);
        due.is("18: near weighs his own gain", 3, x.choice(3));
        due.is("18: knowing does not", 2, x.choice(1));
        x.wire(2, 0, 1);
        x.wire(5, 0, 1);
        x.patience(24);
        due.is("18: gain 0 is chosen too", 2, x.choice(1));
        due.is("18: none of them draws", 1, x.count(9));
        for (int t : new int[] {-1, 6, MIN, MAX}) {
            due.is("18: bad", Due.BAD, x.choice(t));
        }
    }

    private static void choiceByLot() {
        TwoBells x = Due.town(3);
        int[] owners = {0, 1, 0, 0, 2, 0, 1};
        for (int o : owners) {
            x.door(o, 5);
        }
        int[] kinds = {0, 2, 5};
        for (int k : kinds) {
            x.thief(k, 0);
        }
        int z = 1;
        for (int i = 0; i < 60; i++) {
            z = Due.draw(z);
            int door = (z >>> 8) % 7;
            while (owners[door] == 0) {
                door = (door + 1) % 7;
            }
            due.is("18: by lot", door, x.choice(i % 3));
            due.is("18: one draw", z, x.count(9));
        }
    }

    private static void choiceOfMany() {
        TwoBells x = Due.town(3);
        x.thief(0, 0);
        x.door(1, 5);
        due.is("18: the only door, by lot", 0, x.choice(0));
        for (int d = 1; d < 12; d++) {
            x.door(d % 2, 10 + d);
        }
        for (int kind = 1; kind < 6; kind++) {
            x.thief(kind, 1);
        }
        x.turns(5, 3);
        due.is("18: the last of thieves", 10, x.choice(5));
        due.is("18: quick", 10, x.choice(4));
        x.set(11, 1, 999);
        due.is("18: the last door is open to him", 10, x.choice(5));
        due.is("24: the last door", 11, x.worst(1));
        due.is("24: the first thief", 0, x.worst(0));
        x.seed(5);
        int first = (Due.draw(5) >>> 8) % 12;
        due.is("18: of twelve, by lot", (first % 2 == 1 || first == 0 ? first : first + 1), x.choice(0));
    }

    private static void nightsAtTheEdge() {
        TwoBells x = new TwoBells();
        x.house(0, 0);
        x.house(75, 100);
        x.door(0, 8);
        x.wire(0, 0, 1);
        x.thief(1, 1);
        x.seed(Due.seedFor(2499, 10000, 1));
        due.is("19: just missed", 8, x.nights(1));
        x.seed(Due.seedFor(2500, 10000, 1));
        due.is("19: just caught", 8, x.nights(1));
        due.is("19: just caught", 1, x.count(4));
        x.change(1, 0, 100);
        x.seed(Due.seedFor(0, 10000, 1));
        due.is("19: never missed", 8, x.nights(1));
        due.is("19: caught", 2, x.count(4));
    }

    private static void nights() {
        TwoBells x = new TwoBells();
        x.house(50, 100);
        x.house(30, 100);
        x.house(70, 100);
        x.door(0, 100);
        x.door(1, 7);
        x.wire(0, 0, 1);
        x.wire(0, 1, 2);
        x.wire(1, 0, 2);
        int[] homes = {1, 0, 2};
        x.thief(1, 1);  // chooses door 0: missed 70 * 30
        x.thief(0, 0);  // chooses door 1: missed 30 * 100, with a draw of his own
        x.thief(4, 2);  // chooses door 0: missed 85 * 65
        int[] missed = {2100, 3000, 85 * 65};
        int[] worth = {100, 7, 100};
        due.is("19: homes", homes[2], x.told(2, 1));
        int z = 99;
        x.seed(z);
        int taken = 0;
        int caught = 0;
        for (int n : new int[] {1, 1, 2, 60, 5}) {
            for (int i = 0; i < n; i++) {
                for (int t = 0; t < 3; t++) {
                    z = t == 1 ? Due.draw(z) : z;
                    z = Due.draw(z);
                    boolean unseen = (z >>> 8) % 10000 < missed[t];
                    taken += unseen ? worth[t] : 0;
                    caught += unseen ? 0 : 1;
                }
            }
            due.is("19: taken", taken, x.nights(n));
            due.is("19: taken", taken, x.count(3));
            due.is("19: caught", caught, x.count(4));
            due.is("19: z", z, x.count(9));
        }
        for (int n : new int[] {0, -1, 61, MIN, MAX}) {
            due.is("19: bad", Due.BAD, x.nights(n));
        }
        due.is("19: unchanged", z, x.count(9));
        nightsWithoutChoice();
    }

    private static void nightsWithoutChoice() {
        TwoBells x = Due.town(2);
        x.door(0, 9);
        x.thief(0, 0);
        x.thief(1, 0);
        due.is("19: nothing without a choice", 0, x.nights(60));
        due.is("19: nobody is caught", 0, x.count(4));
        due.is("19: no draw", 1, x.count(9));
        x.thief(1, 1);
        due.is("19: no bells, missed always", 540, x.nights(60));
        due.is("19: nobody is caught", 0, x.count(4));
        x.wire(0, 0, 1);
        due.is("19: comes always", 540, x.nights(10));
        due.is("19: caught always", 10, x.count(4));
    }

    private static void seed() {
        TwoBells x = new TwoBells();
        due.is("20: 1 at first", 1, x.seed(MIN));
        due.is("20: was", MIN, x.seed(-7));
        due.is("20: was", -7, x.seed(Due.BAD));
        due.is("20: is", Due.BAD, x.count(9));
        x.seed(MAX);
        x.deal(1);
        int z = Due.draw(MAX);
        due.is("20: draws from it", (z >>> 8) % 101, x.houseTold(0, 0));
    }
}
