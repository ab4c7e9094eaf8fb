/** Promises 1 to 11: a new object, houses, doors. */
public final class HousesDoorsTest {
    private static final Due due = new Due("HousesDoorsTest");
    private static final int MIN = Integer.MIN_VALUE, MAX = Integer.MAX_VALUE;

    public static void main(String[] args) {
        newObject();
        house();
        houseTold();
        comes();
        change();
        agree();
        patience();
        deal();
        door();
        doorTold();
        set();
        wire();
        due.end();
    }

    private static void newObject() {
        TwoBells x = new TwoBells();
        int[] want = {0, 0, 0, 0, 0, 3, 0, 0, 0, 1};
        for (int i = 0; i < want.length; i++) {
            due.is("1: count(" + i + ")", want[i], x.count(i));
        }
        for (int k = 0; k < 3; k++) {
            due.is("1: why", Due.NONE, x.why(k));
        }
        for (int s = 0; s < 4; s++) {
            due.is("1: sheet missing", Due.NOTHING, x.pour(s));
        }
        for (int s = 0; s < 5; s++) {
            due.is("1: slot holds nothing", 0, x.lay(s, 0, 0));
        }
        due.is("1: no image", Due.NO, x.back());
        TwoBells y = new TwoBells();
        x.house(1, 2);
        x.patience(9);
        due.is("1: objects are apart", 0, y.count(0));
        due.is("1: objects are apart", 3, y.count(5));
    }

    private static void house() {
        TwoBells x = new TwoBells();
        due.is("2: least", 0, x.house(0, 0));
        due.is("2: most", 1, x.house(100, 100));
        int[][] bad = {{-1, 0}, {101, 0}, {0, -1}, {0, 101}, {MIN, 0}, {0, MAX}, {Due.NONE, 5}};
        for (int[] b : bad) {
            due.is("2: bad", Due.BAD, x.house(b[0], b[1]));
        }
        for (int i = 2; i < 10; i++) {
            due.is("2: next", i, x.house(i, 50 + i));
        }
        due.is("2: bad ahead of full", Due.BAD, x.house(101, 1));
        due.is("2: full", Due.FULL, x.house(1, 1));
        due.is("2: ten", 10, x.count(0));
        due.is("2: awake", 9, x.houseTold(9, 0));
        due.is("2: cares", 59, x.houseTold(9, 1));
    }

    private static void houseTold() {
        TwoBells x = Due.town(3);
        x.door(0, 1);
        x.door(1, 1);
        x.set(0, 2, 4);
        x.set(1, 2, 9);
        x.wire(0, 0, 2);
        x.wire(0, 1, 2);
        x.wire(1, 1, 2);
        due.is("3: load counts each bell", 3, x.houseTold(2, 2));
        due.is("3: hears noise for each bell", 17, x.houseTold(2, 3));
        due.is("3: load 0", 0, x.houseTold(1, 2));
        due.is("3: hears 0", 0, x.houseTold(0, 3));
        due.is("3: agrees with none", 0, x.houseTold(0, 5));
        x.agree(0, 2, 1);
        x.agree(1, 0, 1);
        due.is("3: agrees", 6, x.houseTold(0, 5));
        due.is("3: agrees", 1, x.houseTold(2, 5));
        hearsOfTwelve();
        for (int h : new int[] {-1, 3, 10, MIN, MAX}) {
            due.is("3: bad house", Due.BAD, x.houseTold(h, 0));
        }
        for (int w : new int[] {-1, 6, MIN, MAX}) {
            due.is("3: bad what", Due.BAD, x.houseTold(0, w));
        }
    }

    private static void hearsOfTwelve() {
        TwoBells x = Due.town(3);
        int loadOf1 = 0;
        int hearsOf1 = 0;
        for (int d = 0; d < 12; d++) {
            x.door(2, 1);
            x.set(d, 2, d % 10);
            x.wire(d, 0, d % 2);
            x.wire(d, 1, d % 3);
            int bells = (d % 2 == 1 ? 1 : 0) + (d % 3 == 1 ? 1 : 0);
            loadOf1 += bells;
            hearsOf1 += bells * (d % 10);
            due.is("3: load of many", loadOf1, x.houseTold(1, 2));
            due.is("3: hears many", hearsOf1, x.houseTold(1, 3));
        }
    }

    private static void comes() {
        TwoBells x = new TwoBells();
        x.house(99, 99);
        x.house(50, 33);
        x.house(0, 0);
        due.is("3: cut", 98, x.houseTold(0, 4));
        due.is("3: cut", 16, x.houseTold(1, 4));
        due.is("3: nobody", 0, x.houseTold(2, 4));
        for (int d = 0; d < 6; d++) {
            x.door(2, 1);
            x.wire(d, 0, 0);
            int above = Math.max(0, d + 1 - 3);
            due.is("3: tired beyond patience", 98 - 10 * above, x.houseTold(0, 4));
        }
        x.patience(0);
        due.is("3: tired", 38, x.houseTold(0, 4));
        for (int d = 0; d < 6; d++) {
            x.wire(d, 1, 0);
        }
        due.is("3: held at 0", 0, x.houseTold(0, 4));
        x.patience(24);
        due.is("3: patient", 98, x.houseTold(0, 4));
    }

    private static void change() {
        TwoBells x = new TwoBells();
        x.house(10, 20);
        due.is("4: awake was", 10, x.change(0, 0, 100));
        due.is("4: cares was", 20, x.change(0, 1, 0));
        due.is("4: awake was", 100, x.change(0, 0, 0));
        due.is("4: cares was", 0, x.change(0, 1, 7));
        int[][] bad = {{-1, 0, 1}, {1, 0, 1}, {0, -1, 1}, {0, 2, 1}, {0, 0, -1}, {0, 1, 101}, {MIN, 0, 0}, {MAX, 1, 1}, {0, 0, MAX}};
        for (int[] b : bad) {
            due.is("4: bad", Due.BAD, x.change(b[0], b[1], b[2]));
        }
        due.is("4: unchanged", 0, x.houseTold(0, 0));
        due.is("4: unchanged", 7, x.houseTold(0, 1));
    }

    private static void agree() {
        TwoBells x = Due.town(10);
        due.is("5: not at first", 0, x.agree(0, 9, 0));
        due.is("5: was not", 0, x.agree(0, 9, 1));
        due.is("5: both ways", 1, x.agree(9, 0, 1));
        due.is("5: bits", 512, x.houseTold(0, 5));
        due.is("5: bits", 1, x.houseTold(9, 5));
        due.is("5: no more", 1, x.agree(9, 0, 0));
        due.is("5: bits", 0, x.houseTold(0, 5));
        due.is("5: bits", 0, x.houseTold(9, 5));
        int[][] bad = {{3, 3, 1}, {3, 3, 0}, {-1, 0, 1}, {0, 10, 1}, {10, 0, 1}, {0, 1, 2}, {0, 1, -1}, {MIN, 1, 1}, {1, MAX, 1}};
        for (int[] b : bad) {
            due.is("5: bad", Due.BAD, x.agree(b[0], b[1], b[2]));
        }
        due.is("5: unchanged", 0, x.houseTold(3, 5));
    }

    private static void patience() {
        TwoBells x = new TwoBells();
        due.is("6: 3 at first", 3, x.patience(0));
        due.is("6: was", 0, x.patience(24));
        for (int v : new int[] {-1, 25, MIN, MAX, Due.NONE}) {
            due.is("6: bad", Due.BAD, x.patience(v));
        }
        due.is("6: is", 24, x.count(5));
    }

    private static void deal() {
        TwoBells x = new TwoBells();
        for (int n : new int[] {0, -1, 11, MIN, MAX}) {
            due.is("7: bad", Due.BAD, x.deal(n));
        }
        due.is("7: no draw", 1, x.count(9));
        due.is("7: came", 2, x.deal(2));
        int z = 1;
        for (int h = 0; h < 2; h++) {
            for (int what = 0; what < 2; what++) {
                z = Due.draw(z);
                due.is("7: drawn", (z >>> 8) % 101, x.houseTold(h, what));
            }
        }
        due.is("7: z", z, x.count(9));
        for (int i = 0; i < 5; i++) {
            x.house(1, 1);
        }
        due.is("7: as room is", 3, x.deal(10));
        for (int i = 0; i < 6; i++) {
            z = Due.draw(z);
        }
        due.is("7: no draws for others", z, x.count(9));
        due.is("7: no room", 0, x.deal(1));
        due.is("7: no draw", z, x.count(9));
        TwoBells y = new TwoBells();
        due.is("7: ten", 10, y.deal(10));
    }

    private static void door() {
        TwoBells x = new TwoBells();
        due.is("8: no house", Due.BAD, x.door(0, 0));
        x.house(1, 1);
        due.is("8: first", 0, x.door(0, 0));
        due.is("8: next", 1, x.door(0, 999));
        int[][] bad = {{-1, 0}, {1, 0}, {0, -1}, {0, 1000}, {Due.NONE, 1}, {MIN, 1}, {0, MAX}};
        for (int[] b : bad) {
            due.is("8: bad", Due.BAD, x.door(b[0], b[1]));
        }
        for (int i = 2; i < 12; i++) {
            due.is("8: next", i, x.door(0, i));
        }
        due.is("8: bad ahead of full", Due.BAD, x.door(0, 1000));
        due.is("8: full", Due.FULL, x.door(0, 1));
        due.is("8: twelve", 12, x.count(1));
    }

    private static void doorTold() {
        TwoBells x = Due.town(4);
        x.door(3, 77);
        due.is("9: house", 3, x.doorTold(0, 0));
        due.is("9: worth", 77, x.doorTold(0, 1));
        due.is("9: noise 1 at first", 1, x.doorTold(0, 2));
        due.is("9: none at first", Due.NONE, x.doorTold(0, 3));
        due.is("9: none at first", Due.NONE, x.doorTold(0, 4));
        due.is("9: not lawful", 0, x.doorTold(0, 5));
        int[][] wired = {{0, 1, 1}, {1, 0, 1}, {0, 0, 0}, {3, 1, 0}, {1, 3, 0}, {1, Due.NONE, 0}, {Due.NONE, 1, 0}, {2, 0, 1}};
        for (int[] w : wired) {
            x.wire(0, 0, w[0]);
            x.wire(0, 1, w[1]);
            due.is("9: one bell", w[0], x.doorTold(0, 3));
            due.is("9: other bell", w[1], x.doorTold(0, 4));
            due.is("9: lawful " + w[0] + " " + w[1], w[2], x.doorTold(0, 5));
        }
        x.agree(0, 2, 1);
        due.is("9: they agree", 0, x.doorTold(0, 5));
        x.agree(0, 2, 0);
        x.agree(3, 2, 1);
        due.is("9: its own may agree", 1, x.doorTold(0, 5));
        for (int d : new int[] {-1, 1, 12, MIN, MAX}) {
            due.is("9: bad door", Due.BAD, x.doorTold(d, 0));
        }
        for (int w : new int[] {-1, 6, MIN, MAX}) {
            due.is("9: bad what", Due.BAD, x.doorTold(0, w));
        }
    }

    private static void set() {
        TwoBells x = Due.town(1);
        x.door(0, 5);
        due.is("10: worth was", 5, x.set(0, 1, 999));
        due.is("10: worth was", 999, x.set(0, 1, 0));
        due.is("10: noise was", 1, x.set(0, 2, 9));
        due.is("10: noise was", 9, x.set(0, 2, 0));
        int[][] bad = {{-1, 1, 1}, {1, 1, 1}, {0, 0, 0}, {0, 3, 1}, {0, 1, -1}, {0, 1, 1000}, {0, 2, -1}, {0, 2, 10}, {MIN, 1, 1}, {0, 2, MAX}};
        for (int[] b : bad) {
            due.is("10: bad", Due.BAD, x.set(b[0], b[1], b[2]));
        }
        due.is("10: unchanged", 0, x.doorTold(0, 1));
        due.is("10: unchanged", 0, x.doorTold(0, 2));
    }

    private static void wire() {
        TwoBells x = Due.town(2);
        x.door(0, 5);
        due.is("11: was none", Due.NONE, x.wire(0, 1, 1));
        due.is("11: was", 1, x.wire(0, 1, 0));
        due.is("11: the other is apart", Due.NONE, x.wire(0, 0, 1));
        due.is("11: was", 0, x.wire(0, 1, Due.NONE));
        due.is("11: was none", Due.NONE, x.wire(0, 1, Due.NONE));
        int[][] bad = {{-1, 0, 0}, {1, 0, 0}, {0, -1, 0}, {0, 2, 0}, {0, 0, -1}, {0, 0, 2}, {MIN, 0, 0}, {0, 0, MAX}, {0, 0, Due.NO}};
        for (int[] b : bad) {
            due.is("11: bad", Due.BAD, x.wire(b[0], b[1], b[2]));
        }
        due.is("11: unchanged", 1, x.doorTold(0, 3));
    }
}
