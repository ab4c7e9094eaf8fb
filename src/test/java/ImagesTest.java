/** Promises 42 to 46: numbers that wait, images, what is counted. */
public final class ImagesTest {
    private static final Due due = new Due("ImagesTest");
    private static final int MIN = Integer.MIN_VALUE, MAX = Integer.MAX_VALUE;

    public static void main(String[] args) {
        tell();
        check();
        checkGoesByTheImage();
        checkOfThirty();
        imageOfAll();
        keepAndBack();
        backAgainAndAgain();
        whatNoImageKeeps();
        count();
        due.end();
    }

    private static void tell() {
        TwoBells x = new TwoBells();
        for (int i = 1; i <= 60; i++) {
            due.is("42: waits", i, x.tell(i % 2 == 0 ? MIN : Due.BAD));
        }
        due.is("42: full", Due.FULL, x.tell(1));
        due.is("42: sixty", 60, x.count(7));
        x.check(0);
        due.is("42: again", 1, x.tell(1));
    }

    /** A town in which luck tells: each of two thieves is missed about every other time. */
    private static TwoBells lucky() {
        TwoBells x = new TwoBells();
        x.house(50, 100);
        x.house(40, 100);
        x.house(30, 100);
        x.door(0, 10);
        x.door(1, 70);
        x.wire(0, 0, 1);
        x.wire(1, 0, 2);
        x.thief(0, 2);
        x.thief(1, 2);
        return x;
    }

    private static void check() {
        TwoBells x = lucky();
        x.tell(1);
        due.is("43: no image", Due.NO, x.check(1));
        due.is("43: none wait then", 0, x.count(7));
        for (int n : new int[] {0, -1, 31, MIN, MAX}) {
            x.tell(1);
            due.is("43: bad, ahead of no", Due.BAD, x.check(n));
            due.is("43: none wait then", 0, x.count(7));
        }
        x.nights(3);
        x.keep();
        int[] told = nightsTold(x, 5);
        x.back();
        int z = x.count(9);
        due.is("43: right", 0, checked(x, told, 10, 5));
        due.is("43: none wait then", 0, x.count(7));
        due.is("43: again", 0, checked(x, told, 10, 5));
        due.is("43: fewer nights", 0, checked(x, told, 4, 2));
        for (int given = 0; given < 10; given++) {
            due.is("43: missing", 1 + given, checked(x, told, given, 5));
        }
        due.is("43: too many", 1 + 8, checked(x, told, 9, 4));
        due.is("43: too many", 1 + 2, checked(x, told, 10, 1));
        for (int wrong = 0; wrong < 10; wrong++) {
            int[] other = told.clone();
            other[wrong]++;
            due.is("43: wrong", 1 + wrong, checked(x, other, 10, 5));
            other[9] += 2;
            due.is("43: the first wrong one", 1 + wrong, checked(x, other, 10, 5));
        }
        int[] turned = {told[1], told[0]};
        due.holds("43: taken and caught are unlike", told[0] != told[1]);
        due.is("43: caught ahead of taken", 1, checked(x, turned, 2, 1));
        due.is("43: draws nothing now", z, x.count(9));
        due.is("43: the image is whole", 2, x.back());
        due.is("43: the image is whole", z, x.count(9));
    }

    private static int[] nightsTold(TwoBells x, int n) {
        int[] told = new int[2 * n];
        for (int i = 0; i < n; i++) {
            told[2 * i] = x.nights(1);
            told[2 * i + 1] = x.count(4);
        }
        return told;
    }

    private static int checked(TwoBells x, int[] told, int given, int n) {
        for (int i = 0; i < given; i++) {
            x.tell(told[i]);
        }
        return x.check(n);
    }

    private static void checkGoesByTheImage() {
        TwoBells x = lucky();
        Due.tell(x, "come a/2");
        Due.tell(x, "gain 9-w/10");
        x.keep();
        int[] told = nightsTold(x, 6);
        x.seed(12345);
        x.set(0, 1, 11);
        x.set(1, 1, 12);
        x.turns(0, 4);
        x.thief(3, 1);
        x.agree(0, 1, 1);
        x.change(1, 0, 0);
        x.wire(1, 1, 0);
        x.patience(0);
        Due.tell(x, "come 100");
        Due.tell(x, "gain w");
        int taken = x.count(3);
        int caught = x.count(4);
        due.is("43: by the image", 0, checked(x, told, 12, 6));
        due.is("43: taken stays", taken, x.count(3));
        due.is("43: caught stays", caught, x.count(4));
        due.is("43: z stays", 12345, x.count(9));
    }

    private static void checkOfThirty() {
        TwoBells x = lucky();
        x.keep();
        int[] told = nightsTold(x, 30);
        due.is("43: thirty", 0, checked(x, told, 60, 30));
        due.is("43: the last is missing", 60, checked(x, told, 59, 30));
        due.is("43: two too many", 59, checked(x, told, 60, 29));
    }

    /** As much as there can be of all, so that no part of a row is left out. */
    private static void imageOfAll() {
        TwoBells x = new TwoBells();
        x.keep();
        for (int h = 0; h < 10; h++) {
            x.house(50 + h, 90 + h);
        }
        for (int d = 0; d < 12; d++) {
            x.door(9 - d % 4, 500 + d);
            x.set(d, 2, d % 10);
            x.wire(d, 0, d % 5);
            x.wire(d, 1, (d + 1) % 6);
        }
        for (int t = 0; t < 6; t++) {
            x.thief(t, 9 - t % 4);
        }
        x.agree(8, 9, 1);
        for (int i = 0; i < 14; i++) {
            Due.tell(x, i % 2 == 0 ? "come a*c/150" : "gain w*m/9000");
        }
        due.is("44: twelve doors", 12, x.keep());
        int[] told = nightsTold(x, 7);
        due.is("43: of all", 0, checked(x, told, 14, 7));
        for (int d = 0; d < 12; d++) {
            x.set(d, 1, 0);
            x.set(d, 2, 0);
            x.wire(d, 0, Due.NONE);
            x.wire(d, 1, Due.NONE);
        }
        for (int h = 0; h < 10; h++) {
            x.change(h, 0, 0);
            x.change(h, 1, 0);
        }
        for (int t = 0; t < 6; t++) {
            x.turns(t, 0);
        }
        x.agree(8, 9, 0);
        due.is("43: of all, by the image", 0, checked(x, told, 14, 7));
        due.is("45: twelve doors", 12, x.back());
        for (int d = 0; d < 12; d++) {
            int[] want = {9 - d % 4, 500 + d, d % 10, d % 5, (d + 1) % 6};
            for (int what = 0; what < 5; what++) {
                due.is("45: door " + d + " " + what, want[what], x.doorTold(d, what));
            }
        }
        for (int h = 0; h < 10; h++) {
            due.is("45: awake", 50 + h, x.houseTold(h, 0));
            due.is("45: cares", 90 + h, x.houseTold(h, 1));
            due.is("45: agrees", h == 8 ? 512 : h == 9 ? 256 : 0, x.houseTold(h, 5));
        }
        for (int t = 0; t < 6; t++) {
            due.is("45: kind", t, x.told(t, 0));
            due.is("45: house", 9 - t % 4, x.told(t, 1));
        }
        due.is("45: fourteen texts", 14, x.count(6));
        due.is("45: the last of come", 12, x.why(0));
        due.is("45: the last of gain", 13, x.why(1));
    }

    private static void keepAndBack() {
        TwoBells x = new TwoBells();
        due.is("45: no image", Due.NO, x.back());
        due.is("44: no doors", 0, x.keep());
        due.is("45: no doors", 0, x.back());
        x.house(50, 100);
        x.house(40, 90);
        x.door(0, 10);
        x.door(1, 20);
        x.wire(0, 1, 1);
        x.thief(1, 1);
        x.patience(7);
        x.seed(77);
        x.agree(0, 1, 1);
        Due.tell(x, "come a/2");
        x.set(1, 2, 6);
        x.nights(2);
        int taken = x.count(3);
        int caught = x.count(4);
        int z = x.count(9);
        due.is("44: two doors", 2, x.keep());
        x.house(1, 1);
        x.door(2, 1);
        x.change(0, 0, 1);
        x.change(1, 1, 1);
        x.agree(0, 1, 0);
        x.agree(0, 2, 1);
        x.set(0, 1, 1);
        x.set(1, 2, 1);
        x.wire(0, 0, 2);
        x.wire(0, 1, 0);
        x.turns(0, 5);
        x.thief(2, 2);
        x.patience(8);
        Due.tell(x, "come 99");
        Due.tell(x, "may p");
        x.nights(5);
        due.is("45: two doors", 2, x.back());
        int[] counts = {2, 2, 1, taken, caught, 7, 1, 0, 0, z};
        for (int i = 0; i < counts.length; i++) {
            due.is("45: count(" + i + ")", counts[i], x.count(i));
        }
        int[][] houses = {{50, 100, 0, 0, 25, 2}, {40, 90, 1, 1, 20, 1}};
        int[][] doors = {{0, 10, 1, Due.NONE, 1, 0}, {1, 20, 6, Due.NONE, Due.NONE, 0}};
        for (int i = 0; i < 2; i++) {
            for (int what = 0; what < 6; what++) {
                due.is("45: house " + i + " " + what, houses[i][what], x.houseTold(i, what));
                due.is("45: door " + i + " " + what, doors[i][what], x.doorTold(i, what));
            }
        }
        due.is("45: his kind", 1, x.told(0, 0));
        due.is("45: his house", 1, x.told(0, 1));
        due.is("45: come", 0, x.why(0));
        due.is("45: may", Due.NONE, x.why(2));
        x.house(3, 4);
        due.is("45: a new house agrees with none", 0, x.houseTold(2, 5));
        x.door(2, 5);
        due.is("45: a new door has no bells", Due.NONE, x.doorTold(2, 3));
        due.is("45: a new door has noise 1", 1, x.doorTold(2, 2));
        due.is("45: a text anew", 1, Due.tell(x, "come 3"));
        due.is("45: it counts", 3, x.houseTold(0, 4));
    }

    private static void backAgainAndAgain() {
        TwoBells x = lucky();
        x.keep();
        int first = x.nights(9);
        for (int i = 0; i < 3; i++) {
            due.is("45: back", 2, x.back());
            due.is("45: nothing taken", 0, x.count(3));
            due.is("45: the same nights", first, x.nights(9));
            x.door(0, 5);
        }
        due.is("44: anew", 3, x.keep());
        x.nights(9);
        x.back();
        due.is("45: the new image", first, x.count(3));
        due.is("45: the new image", 3, x.count(1));
    }

    private static void whatNoImageKeeps() {
        TwoBells x = lucky();
        x.sheet(0, 0, 2);
        x.lay(0, 3, 5);
        x.keep();
        x.mark(0, 0, 9);
        x.sheet(1, 1, 3);
        x.turns(0, 3);
        x.lay(0, 1, 0);
        x.tell(4);
        x.feed(1, 2, 3);
        x.back();
        due.is("45: sheets stay", 0, x.lay(1, 2, 0));
        due.is("45: sheets stay", 9, x.item(1, 0));
        due.is("45: sheets stay", 1, x.mark(1, 2, 1));
        due.is("45: slots stay", 24, x.ask(0, 3));
        due.is("45: numbers wait", 1, x.count(7));
        due.is("45: the tape stays", 12, x.count(8));
        due.is("45: he is as he was", 0, x.told(0, 0));
        due.is("44: keep leaves all", 2, x.keep());
        due.is("44: numbers wait", 1, x.count(7));
        due.is("44: the tape stays", 12, x.count(8));
    }

    private static void count() {
        TwoBells x = lucky();
        Due.tell(x, "come a");
        x.tell(1);
        x.tell(1);
        x.feed(1, 1, 1);
        x.patience(4);
        int[] want = {3, 2, 2, 0, 0, 4, 1, 2, 12, 1};
        for (int i = 0; i < want.length; i++) {
            due.is("46: count(" + i + ")", want[i], x.count(i));
        }
        int taken = x.nights(60);
        due.is("46: taken", taken, x.count(3));
        due.holds("46: some are caught", x.count(4) > 0 && taken > 0 && x.count(4) < 120);
        for (int w : new int[] {-1, 10, MIN, MAX}) {
            due.is("46: bad", Due.BAD, x.count(w));
        }
    }
}
