/** Promises 33 to 41: sheets and slots. */
public final class SheetsSlotsTest {
    private static final Due due = new Due("SheetsSlotsTest");
    private static final int MIN = Integer.MIN_VALUE, MAX = Integer.MAX_VALUE;

    public static void main(String[] args) {
        sheet();
        markShorts();
        markFloats();
        pour();
        reads();
        copy();
        copyOverItself();
        lay();
        ask();
        item();
        rest();
        due.end();
    }

    /** What stands at a place of a sheet, by way of slot 4. */
    private static int placeOf(TwoBells x, int sheet, int place) {
        x.lay(4, 2, sheet);
        return x.item(4, place);
    }

    private static void sheet() {
        TwoBells x = new TwoBells();
        due.is("33: none", 0, x.sheet(0, 0, 0));
        due.is("33: most", 24, x.sheet(3, 1, 24));
        int[][] bad = {{-1, 0, 1}, {4, 0, 1}, {0, -2, 1}, {0, 2, 1}, {0, 0, 25}, {0, 1, MAX}, {MIN, 0, -1}, {0, 2, -1}, {4, -1, 0}};
        for (int[] b : bad) {
            due.is("33: bad", Due.BAD, x.sheet(b[0], b[1], b[2]));
        }
        due.is("33: size", Due.SIZE, x.sheet(0, 0, -1));
        due.is("33: size", Due.SIZE, x.sheet(0, 1, MIN));
        due.is("33: unchanged", Due.INDEX, x.mark(0, 0, 1));
        x.mark(3, 23, 7);
        due.is("33: again", 24, x.sheet(3, 1, 24));
        due.is("33: all 0", 0, placeOf(x, 3, 23));
        x.mark(3, 1, Due.NONE);
        due.is("33: of the other sort", 3, x.sheet(3, 0, 3));
        due.is("33: all 0", 0, placeOf(x, 3, 1));
        for (int n : new int[] {5, 25, -1, MIN, MAX}) {
            due.is("33: missing, n any", 0, x.sheet(3, -1, n));
            due.is("33: missing", Due.NOTHING, x.mark(3, 0, 0));
        }
        due.is("33: missing again", 0, x.sheet(2, -1, 0));
    }

    private static void markShorts() {
        TwoBells x = new TwoBells();
        due.is("34: nothing", Due.NOTHING, x.mark(0, 0, 0));
        due.is("34: nothing ahead of index", Due.NOTHING, x.mark(0, -1, Due.NONE));
        x.sheet(0, 0, 3);
        int[][] values = {{1, 1}, {-1, -1}, {32767, 32767}, {32768, -32768}, {65536, 0}, {-32769, 32767}, {MIN, 0}, {MAX, -1}, {Due.BAD, (short) Due.BAD}};
        for (int[] v : values) {
            due.is("34: marked", 1, x.mark(0, 2, v[0]));
            due.is("34: lowest 16 bits of " + v[0], v[1], placeOf(x, 0, 2));
        }
        due.is("34: no number among shorts", Due.KIND, x.mark(0, 2, Due.NONE));
        due.is("34: index ahead of kind", Due.INDEX, x.mark(0, 3, Due.NONE));
        for (int p : new int[] {-1, 3, 24, MIN, MAX}) {
            due.is("34: index", Due.INDEX, x.mark(0, p, 1));
        }
        for (int s : new int[] {-1, 4, MIN, MAX}) {
            due.is("34: bad", Due.BAD, x.mark(s, 0, 1));
        }
    }

    private static void markFloats() {
        TwoBells x = new TwoBells();
        x.sheet(1, 1, 2);
        for (int v : new int[] {99999, -99999, 0, 65536, 40000}) {
            due.is("34: marked", 1, x.mark(1, 1, v));
            due.is("34: float " + v, v, placeOf(x, 1, 1));
        }
        for (int v : new int[] {100000, -100000, MIN, MAX, Due.BAD, Due.NO}) {
            due.is("34: bad of floats", Due.BAD, x.mark(1, 1, v));
        }
        due.is("34: unchanged", 40000, placeOf(x, 1, 1));
        due.is("34: index ahead of bad", Due.INDEX, x.mark(1, 2, MAX));
        due.is("34: no number", 1, x.mark(1, 1, Due.NONE));
        due.is("34: no number", Due.KIND, placeOf(x, 1, 1));
        due.is("34: a number again", 1, x.mark(1, 1, 5));
        due.is("34: a number again", 5, placeOf(x, 1, 1));
    }

    private static void pour() {
        TwoBells x = Due.town(3);
        for (int d = 0; d < 3; d++) {
            x.door(0, 1);
        }
        x.wire(2, 1, 2);
        x.wire(0, 1, 0);
        x.sheet(0, 1, 5);
        int[] marks = {2, 1, Due.NONE, 3, -1};
        for (int i = 0; i < 5; i++) {
            x.mark(0, i, marks[i]);
        }
        due.is("35: elsewhere", 2, x.pour(0));
        int[] want = {2, 1, Due.NONE, Due.NONE, Due.NONE, 2};
        for (int i = 0; i < 6; i++) {
            due.is("35: bell " + i, want[i], x.doorTold(i / 2, 3 + i % 2));
        }
        due.is("35: again", 0, x.pour(0));
        x.sheet(0, 0, 24);
        due.is("35: all to 0", 6, x.pour(0));
        due.is("35: all to 0", 6, x.houseTold(0, 2));
        for (int i = 0; i < 24; i++) {
            x.mark(0, i, 1);
        }
        due.is("35: no more than there are bells", 6, x.pour(0));
        x.sheet(0, 0, 0);
        due.is("35: no places", 0, x.pour(0));
        x.sheet(0, 0, 1);
        x.mark(0, 0, 3);
        due.is("35: no house", 1, x.pour(0));
        due.is("35: none", Due.NONE, x.doorTold(0, 3));
        due.is("35: nothing", Due.NOTHING, x.pour(1));
        for (int s : new int[] {-1, 4, MIN, MAX}) {
            due.is("35: bad", Due.BAD, x.pour(s));
        }
        TwoBells y = new TwoBells();
        y.sheet(0, 0, 24);
        due.is("35: no doors", 0, y.pour(0));
    }

    private static void reads() {
        TwoBells x = Due.town(3);
        x.door(0, 1);
        x.wire(0, 0, 1);
        x.wire(0, 1, 1);
        x.sheet(0, 0, 3);
        due.is("36: first", 1, x.reads(0));
        x.mark(0, 1, 2);
        due.is("36: none", Due.NONE, x.reads(0));
        x.mark(0, 2, -1);
        due.is("36: last", 2, x.reads(0));
        x.sheet(1, 1, 5);
        for (int i = 0; i < 5; i++) {
            x.mark(1, i, Due.NONE);
        }
        due.is("36: no numbers", Due.NONE, x.reads(1));
        x.mark(1, 4, 0);
        due.is("36: no house", 4, x.reads(1));
        x.mark(1, 3, 7);
        due.is("36: no house", 3, x.reads(1));
        x.mark(1, 0, 1);
        due.is("36: not its load", 0, x.reads(1));
        x.sheet(1, 1, 0);
        due.is("36: no places", Due.NONE, x.reads(1));
        due.is("36: nothing", Due.NOTHING, x.reads(2));
        for (int s : new int[] {-1, 4, MIN, MAX}) {
            due.is("36: bad", Due.BAD, x.reads(s));
        }
    }

    private static void copy() {
        TwoBells x = new TwoBells();
        due.is("37: nothing", Due.NOTHING, x.copy(0, 0, 1, 0, 0));
        x.sheet(0, 1, 6);
        due.is("37: nothing to copy to", Due.NOTHING, x.copy(0, 0, 1, 0, 0));
        due.is("37: nothing to copy from", Due.NOTHING, x.copy(1, 0, 0, 0, -1));
        x.sheet(1, 1, 3);
        x.sheet(2, 0, 6);
        for (int i = 0; i < 6; i++) {
            x.mark(0, i, 10 + i);
        }
        x.mark(0, 4, Due.NONE);
        due.is("37: many", 2, x.copy(0, 3, 1, 1, 2));
        due.is("37: ahead", 0, placeOf(x, 1, 0));
        due.is("37: copied", 13, placeOf(x, 1, 1));
        due.is("37: no number too", Due.KIND, placeOf(x, 1, 2));
        due.is("37: all", 3, x.copy(0, 0, 1, 0, 3));
        due.is("37: to the end", 1, x.copy(0, 5, 1, 2, 1));
        due.is("37: to the end", 15, placeOf(x, 1, 2));
        due.is("37: none, from the end on", 0, x.copy(0, 6, 1, 3, 0));
        int[][] index = {{-1, 0, 1}, {0, -1, 1}, {0, 0, -1}, {6, 0, 1}, {0, 3, 1}, {7, 0, 0}, {0, 4, 0}, {4, 0, 3}, {0, 1, 3},
            {0, 0, MAX}, {MAX, 0, 1}, {0, MAX, MAX}, {MAX, MAX, MAX}, {MIN, 0, 0}, {0, 0, MIN}, {-1, 0, 0}};
        for (int[] i : index) {
            due.is("37: index " + i[0] + " " + i[1] + " " + i[2], Due.INDEX, x.copy(0, i[0], 1, i[1], i[2]));
        }
        due.is("37: not of one sort", Due.KIND, x.copy(0, 0, 2, 0, 1));
        due.is("37: kind ahead of index", Due.KIND, x.copy(2, 9, 0, 0, -1));
        int[][] bad = {{-1, 0}, {4, 0}, {0, -1}, {0, 4}, {4, 3}, {3, 4}, {MIN, 0}, {0, MAX}};
        for (int[] b : bad) {
            due.is("37: bad", Due.BAD, x.copy(b[0], 0, b[1], 0, 1));
        }
        due.is("37: from is unchanged", 13, placeOf(x, 0, 3));
    }

    private static void copyOverItself() {
        for (int shift = 0; shift < 2; shift++) {
            TwoBells x = new TwoBells();
            x.sheet(0, 0, 6);
            for (int i = 0; i < 6; i++) {
                x.mark(0, i, i);
            }
            due.is("37: over itself", 4, shift == 0 ? x.copy(0, 0, 0, 2, 4) : x.copy(0, 2, 0, 0, 4));
            int[] want = shift == 0 ? new int[] {0, 1, 0, 1, 2, 3} : new int[] {2, 3, 4, 5, 4, 5};
            for (int i = 0; i < 6; i++) {
                due.is("37: as they were", want[i], placeOf(x, 0, i));
            }
        }
    }

    private static void lay() {
        TwoBells x = Due.town(2);
        x.thief(0, 1);
        x.sheet(0, 0, 1);
        due.is("38: held nothing", 0, x.lay(0, 3, MIN));
        due.is("38: held a number", 3, x.lay(0, 1, 0));
        due.is("38: held a thief", 1, x.lay(0, 2, 0));
        due.is("38: held a sheet", 2, x.lay(0, 0, MAX));
        due.is("38: held nothing", 0, x.lay(0, 0, -1));
        int[][] bad = {{-1, 0, 0}, {5, 0, 0}, {0, -1, 0}, {0, 4, 0}, {0, 1, 1}, {0, 1, -1}, {0, 2, 4}, {0, 2, -1}, {MIN, 3, 0}, {0, MAX, 0}};
        for (int[] b : bad) {
            due.is("38: bad", Due.BAD, x.lay(b[0], b[1], b[2]));
        }
        due.is("38: nothing", Due.NOTHING, x.lay(0, 2, 1));
        due.is("38: unchanged", 0, x.lay(0, 3, 8));
        due.is("38: refused", Due.NOTHING, x.lay(0, 2, 3));
        due.is("38: unchanged", 8, x.rest(0, 100));
        due.is("38: slots are apart", 0, x.lay(4, 0, 0));
    }

    private static void ask() {
        int[][] of = {{0}, {0, 1}, {0, 2}, {0, 1, 3}, {0, 2, 4}, {0, 5}};
        int[] worth = {1, 11, 0, 22, 20, 30};
        TwoBells x = Due.town(2);
        x.thief(0, 1);
        for (int kind = 0; kind < 6; kind++) {
            x.turns(0, kind);
            x.lay(0, 1, 0);
            x.turns(0, (kind + 1) % 6);
            for (int wanted = 0; wanted < 6; wanted++) {
                boolean isOf = false;
                for (int k : of[kind]) {
                    isOf |= k == wanted;
                }
                due.is("39: " + kind + " for " + wanted, isOf ? worth[kind] : Due.KIND, x.ask(0, wanted));
            }
        }
        due.is("39: nothing", Due.NOTHING, x.ask(1, 0));
        x.lay(1, 3, 0);
        due.is("39: a number", Due.KIND, x.ask(1, 0));
        x.sheet(0, 0, 1);
        x.lay(1, 1, 0);
        x.lay(1, 2, 0);
        due.is("39: a sheet", Due.KIND, x.ask(1, 0));
        int[][] bad = {{-1, 0}, {5, 0}, {0, -1}, {0, 6}, {2, 6}, {MIN, 0}, {0, MAX}};
        for (int[] b : bad) {
            due.is("39: bad", Due.BAD, x.ask(b[0], b[1]));
        }
    }

    private static void item() {
        TwoBells x = Due.town(1);
        x.thief(0, 0);
        x.sheet(0, 1, 2);
        x.mark(0, 0, 5);
        x.mark(0, 1, Due.NONE);
        due.is("40: nothing", Due.NOTHING, x.item(0, -1));
        x.lay(0, 2, 0);
        x.mark(0, 0, 6);
        due.is("40: as it was then", 5, x.item(0, 0));
        x.sheet(0, 0, 24);
        due.is("40: as it was then", 5, x.item(0, 0));
        due.is("40: no number", Due.KIND, x.item(0, 1));
        x.sheet(0, -1, 0);
        due.is("40: as it was then", 5, x.item(0, 0));
        for (int p : new int[] {-1, 2, 23, MIN, MAX}) {
            due.is("40: index", Due.INDEX, x.item(0, p));
        }
        for (int s : new int[] {-1, 5, MIN, MAX}) {
            due.is("40: bad", Due.BAD, x.item(s, 0));
        }
        x.lay(0, 3, 5);
        due.is("40: a number, ahead of index", Due.KIND, x.item(0, -1));
        x.lay(0, 1, 0);
        due.is("40: a thief", Due.KIND, x.item(0, 0));
        x.sheet(1, 0, 0);
        x.lay(0, 2, 1);
        due.is("40: no places", Due.INDEX, x.item(0, 0));
    }

    private static void rest() {
        TwoBells x = Due.town(1);
        x.thief(0, 0);
        x.sheet(0, 0, 1);
        due.is("41: nothing", Due.NOTHING, x.rest(0, 0));
        int[][] rests = {{7, 3, 1}, {-7, 3, -1}, {7, -3, 1}, {-7, -3, -1}, {MIN, -1, 0}, {MIN, MAX, -1}, {MAX, MIN, MAX}, {0, 5, 0}};
        for (int[] r : rests) {
            x.lay(0, 3, r[0]);
            due.is("41: " + r[0] + " by " + r[1], r[2], x.rest(0, r[1]));
        }
        due.is("41: by 0", Due.NO, x.rest(0, 0));
        x.lay(0, 1, 0);
        due.is("41: a thief, ahead of 0", Due.KIND, x.rest(0, 0));
        x.lay(0, 2, 0);
        due.is("41: a sheet", Due.KIND, x.rest(0, 1));
        for (int s : new int[] {-1, 5, MIN, MAX}) {
            due.is("41: bad", Due.BAD, x.rest(s, 0));
        }
    }
}
