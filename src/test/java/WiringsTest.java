/** Promises 21 to 27: pairs, wirings, the worst, who hears what. */
public final class WiringsTest {
    private static final Due due = new Due("WiringsTest");
    private static final int MIN = Integer.MIN_VALUE, MAX = Integer.MAX_VALUE;

    public static void main(String[] args) {
        pair();
        pairByLaw();
        wiring();
        unlawful();
        worst();
        heard();
        fewest();
        alike();
        due.end();
    }

    private static void pair() {
        TwoBells x = Due.town(1);
        x.door(0, 1);
        due.is("21: no pair of one", Due.NONE, x.pair(0));
        x.house(1, 1);
        due.is("21: not its own", Due.NONE, x.pair(0));
        x.house(1, 1);
        due.is("21: pair", 102, x.pair(0));
        x.house(1, 1);
        due.is("21: least p, then q", 102, x.pair(0));
        x.wire(0, 0, 1);
        x.wire(0, 1, 1);
        due.is("21: its own bells do not count", 102, x.pair(0));
        x.door(3, 1);
        x.wire(1, 0, 1);
        due.is("21: least loads together", 203, x.pair(0));
        due.is("21: of the other", 2, x.pair(1));
        x.wire(1, 1, 2);
        due.is("21: several", 103, x.pair(0));
        x.agree(1, 3, 1);
        due.is("21: they agree", 203, x.pair(0));
        x.agree(2, 3, 1);
        due.is("21: they agree", 102, x.pair(0));
        x.agree(2, 1, 1);
        due.is("21: all agree", Due.NONE, x.pair(0));
        for (int d : new int[] {-1, 2, MIN, MAX}) {
            due.is("21: bad", Due.BAD, x.pair(d));
        }
        due.is("21: changes nothing", 1, x.doorTold(0, 3));
        pairOfTen();
    }

    private static void pairOfTen() {
        TwoBells x = Due.town(10);
        for (int d = 0; d < 12; d++) {
            x.door(0, 1);
        }
        // Houses 0 to 7 have loads, so the last two are the best.
        for (int d = 1; d < 12; d++) {
            x.wire(d, 0, d % 8);
            x.wire(d, 1, (d + 3) % 8);
        }
        due.is("21: the last", 809, x.pair(0));
        x.wire(11, 0, 8);
        x.wire(11, 1, 8);
        x.wire(10, 0, 9);
        x.wire(10, 1, 9);
        x.wire(9, 0, Due.NONE);
        x.wire(4, 1, Due.NONE);
        x.wire(6, 1, Due.NONE);
        x.wire(1, 0, Due.NONE);
        due.is("21: sum of loads, not the greater one", expectedPair(x, 0), x.pair(0));
    }

    /** By the houses' loads as told; no bell of that door is wired, none agree, no law. */
    private static int expectedPair(TwoBells x, int own) {
        int best = Due.NONE;
        int least = MAX;
        for (int p = 0; p < 10; p++) {
            for (int q = p + 1; q < 10; q++) {
                int loads = x.houseTold(p, 2) + x.houseTold(q, 2);
                if (p != own && q != own && loads < least) {
                    least = loads;
                    best = 100 * p + q;
                }
            }
        }
        return best;
    }

    private static void pairByLaw() {
        TwoBells x = Due.town(5);
        x.door(2, 1);
        due.is("21: law", 0, Due.tell(x, "may q-p=2|q=9"));
        due.is("21: by law", 103, x.pair(0));
        Due.tell(x, "may p>o");
        due.is("21: own by law", 304, x.pair(0));
        Due.tell(x, "may 0");
        due.is("21: nothing is lawful", Due.NONE, x.pair(0));
        x.wire(0, 0, 0);
        x.wire(0, 1, 1);
        due.is("9: nothing is lawful", 0, x.doorTold(0, 5));
        Due.tell(x, "may p-q");
        due.is("9: what is not 0 is lawful", 1, x.doorTold(0, 5));
        Due.tell(x, "may p=0&q=1&o=2");
        x.wire(0, 0, 1);
        x.wire(0, 1, 0);
        due.is("9: p is the lesser", 1, x.doorTold(0, 5));
    }

    private static void wiring() {
        TwoBells x = Due.town(4);
        x.door(0, 1);
        x.door(1, 1);
        x.door(2, 1);
        x.wire(2, 0, 1);
        x.wire(2, 1, 1);
        due.is("22: all lawful", 3, x.wiring());
        // Door 0 still meets the old bells of door 2; door 2's own do not count when it comes to it.
        int[][] want = {{2, 3}, {0, 2}, {0, 1}};
        for (int d = 0; d < 3; d++) {
            due.is("22: one bell of " + d, want[d][0], x.doorTold(d, 3));
            due.is("22: other bell of " + d, want[d][1], x.doorTold(d, 4));
        }
        Due.tell(x, "may o=1");
        due.is("22: one lawful", 1, x.wiring());
        due.is("22: none", Due.NONE, x.doorTold(0, 3));
        due.is("22: none", Due.NONE, x.doorTold(2, 4));
        // Door 2 still rang in 0 and 1 when it came to door 1.
        due.is("22: wired", 2, x.doorTold(1, 3));
        due.is("22: wired", 3, x.doorTold(1, 4));
        due.is("22: no doors", 0, Due.town(3).wiring());
    }

    private static void unlawful() {
        TwoBells x = Due.town(4);
        due.is("23: none", 0, x.unlawful(0));
        due.is("23: none", Due.NONE, x.unlawful(1));
        for (int d = 0; d < 3; d++) {
            x.door(d, 1);
        }
        due.is("23: all", 3, x.unlawful(0));
        due.is("23: first", 0, x.unlawful(1));
        x.wiring();
        due.is("23: none", 0, x.unlawful(0));
        due.is("23: none", Due.NONE, x.unlawful(1));
        x.wire(2, 0, 2);
        x.wire(1, 1, Due.NONE);
        due.is("23: two", 2, x.unlawful(0));
        due.is("23: first", 1, x.unlawful(1));
        for (int w : new int[] {-1, 2, MIN, MAX}) {
            due.is("23: bad", Due.BAD, x.unlawful(w));
        }
    }

    private static void worst() {
        TwoBells x = Due.town(3);
        due.is("24: none", Due.NONE, x.worst(2));
        x.door(0, 500);
        due.is("24: no thief", Due.NONE, x.worst(0));
        x.thief(0, 0);
        due.is("24: all open", Due.NONE, x.worst(1));
        x.door(1, 400);
        due.is("24: thief", 0, x.worst(0));
        due.is("24: door", 1, x.worst(1));
        due.is("24: gain", 400, x.worst(2));
        x.thief(2, 2);
        due.is("24: thief", 1, x.worst(0));
        due.is("24: door", 0, x.worst(1));
        due.is("24: gain", 500, x.worst(2));
        x.set(1, 1, 500);
        due.is("24: first thief of several", 0, x.worst(0));
        due.is("24: his door", 1, x.worst(1));
        x.set(1, 1, 499);
        x.door(2, 500);
        due.is("24: first thief of several", 0, x.worst(0));
        due.is("24: his door", 2, x.worst(1));
        x.thief(1, 1);
        x.turns(0, 0);
        x.wire(2, 0, 1);
        due.is("24: first door of several thieves", 1, x.worst(0));
        x.wire(0, 0, 1);
        x.wire(1, 0, 2);
        due.is("24: a cutter", 1, x.worst(0));
        due.is("24: a cutter", 0, x.worst(1));
        due.is("24: a cutter", 250, x.worst(2));
        for (int w : new int[] {-1, 3, MIN, MAX}) {
            due.is("24: bad", Due.BAD, x.worst(w));
        }
        worstOfMany();
        TwoBells y = Due.town(2);
        due.is("24: bad ahead of none", Due.BAD, y.worst(3));
        y.door(0, 0);
        y.door(0, 0);
        y.thief(0, 1);
        y.thief(0, 1);
        due.is("24: gain 0", 0, y.worst(0));
        due.is("24: gain 0", 0, y.worst(1));
        due.is("24: gain 0", 0, y.worst(2));
    }

    private static void worstOfMany() {
        TwoBells x = Due.town(3);
        for (int d = 0; d < 12; d++) {
            x.door(d % 2, 100 + d);
            x.wire(d, 0, 2);
        }
        x.patience(24);
        for (int t = 0; t < 6; t++) {
            x.thief(0, 2);
        }
        due.is("24: all are heard", 0, x.worst(2));
        x.turns(5, 3);
        due.is("24: the last thief", 5, x.worst(0));
        due.is("24: the last door", 11, x.worst(1));
        due.is("24: his gain", 111, x.worst(2));
        x.turns(4, 2);
        x.set(3, 1, 999);
        due.is("24: still the last", 5, x.worst(0));
        due.is("24: another door", 3, x.worst(1));
        x.turns(2, 3);
        due.is("24: the first of two", 2, x.worst(0));
    }

    private static void heard() {
        TwoBells x = Due.town(10);
        for (int d = 0; d < 12; d++) {
            x.door(0, 1);
        }
        x.wire(0, 0, 3);
        x.wire(0, 1, 9);
        x.wire(11, 1, 9);
        x.wire(5, 0, 4);
        x.wire(5, 1, 4);
        due.is("25: by nobody", 0, x.heard(0));
        due.is("25: one", 1, x.heard(8));
        due.is("25: the other", 2049, x.heard(512));
        due.is("25: two", 33, x.heard(24));
        due.is("25: all", 2081, x.heard(1023));
        for (int s : new int[] {-1, 1024, MIN, MAX}) {
            due.is("25: bad", Due.BAD, x.heard(s));
        }
        TwoBells y = Due.town(2);
        due.is("25: houses there are", 0, y.heard(3));
        due.is("25: no such house", Due.BAD, y.heard(4));
    }

    private static void fewest() {
        TwoBells x = Due.town(6);
        due.is("26: no doors", 0, x.fewest());
        x.door(0, 1);
        due.is("26: no bells", 0, x.fewest());
        x.wire(0, 0, 5);
        due.is("26: one bell", 32, x.fewest());
        x.wire(0, 1, 2);
        due.is("26: the least as bits", 4, x.fewest());
        x.door(0, 1);
        x.wire(1, 1, 5);
        due.is("26: one for both", 32, x.fewest());
        x.door(0, 1);
        x.wire(2, 0, 2);
        x.wire(2, 1, 3);
        due.is("26: two, the least as bits", 36, x.fewest());
        x.door(0, 1);
        x.wire(3, 0, 0);
        x.wire(3, 1, 1);
        due.is("26: three", 37, x.fewest());
        x.door(0, 1);
        x.wire(4, 0, 1);
        x.wire(4, 1, 3);
        due.is("26: others of three, the least as bits", 38, x.fewest());
        x.wire(2, 0, 4);
        due.is("26: others of three, the least as bits", 41, x.fewest());
        TwoBells y = Due.town(4);
        for (int d = 0; d < 3; d++) {
            y.door(3, 1);
            y.wire(d, 0, d);
            y.wire(d, 1, 3);
        }
        due.is("26: one, not three that are less as bits", 8, y.fewest());
    }

    private static void alike() {
        TwoBells x = Due.town(4);
        x.door(0, 1);
        due.is("27: one", 0, x.alike());
        x.door(0, 1);
        due.is("27: both none", 1, x.alike());
        x.door(0, 1);
        due.is("27: three pairs", 3, x.alike());
        x.wire(0, 0, 1);
        x.wire(0, 1, 2);
        due.is("27: one pair", 1, x.alike());
        x.wire(1, 0, 2);
        x.wire(1, 1, 1);
        due.is("27: the other way round", 1, x.alike());
        x.wire(2, 0, 1);
        due.is("27: not a part", 1, x.alike());
        x.wire(1, 0, 1);
        due.is("27: twice is once", 1, x.alike());
        x.wire(0, 1, Due.NONE);
        due.is("27: all three", 3, x.alike());
        for (int d = 3; d < 12; d++) {
            x.door(0, 1);
        }
        due.is("27: three and nine", 3 + 36, x.alike());
    }
}
