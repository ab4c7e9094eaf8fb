/** Sentences that bound numbers that wait, images and counts: promises 42 to 46. */
final class ImageEdges {
    private static final int MIN = Integer.MIN_VALUE, MAX = Integer.MAX_VALUE;
    private final Edges e;

    ImageEdges(Edges e) {
        this.e = e;
    }

    void all() {
        tell();
        check();
        checkOfWrongOnes();
        nightsTold();
        keep();
        back();
        allOfAll();
        notKept();
        count();
        manyCalls();
    }

    private void tell() {
        e.on(42, "One more number waits: how many.").does("tell(5) = 1; tell(5) = 2; count(7) = 2; tell(MIN) = 3; tell(BAD) = 4; "
            + "tell(NONE) = 5; count(7) = 5");
        Run full = e.on(42, "FULL: 60 wait.");
        for (int i = 1; i <= 60; i++) {
            full.does("tell(" + i + ") = " + i);
        }
        full.does("tell(0) ! FULL; tell(MAX) ! FULL; count(7) = 60; check(0); tell(0) = 1");
        Run last = e.on(42, "FULL: 60 wait.").does("keep()").times(59, "tell(0)")
            .does("tell(0) = 60; tell(0) ! FULL; check(30) = 0; count(7) = 0; tell(1) = 1");
        last.does("check(1) = 1; tell(0) = 1");
    }

    /** A town in which every night takes 10, and catches one who is always heard. */
    private static Run sureTown(Run x) {
        return x.does("house(100, 100); house(0, 0); door(0, 10); door(1, 7); wire(1, 0, 0); thief(1, 1); thief(1, 0)");
    }

    /** Tells what so many nights come to there. */
    private static Run tells(Run x, int nights) {
        for (int i = 1; i <= nights; i++) {
            x.does("tell(" + 10 * i + "); tell(" + i + ")");
        }
        return x;
    }

    private void check() {
        String told = "are THE NIGHTS TOLD of n (1 .. 30), two by two: 0;";
        tells(sureTown(e.on(43, told)).does("keep()"), 1).does("check(1) = 0");
        tells(sureTown(e.on(43, told)).does("keep()"), 30).does("check(30) = 0");
        tells(sureTown(e.on(43, told)).does("keep()"), 2).does("check(2) = 0; tell(1); tell(10); check(1) = 1; tell(10); tell(1); "
            + "check(1) = 0; check(1) = 1");
        e.on(43, told).does("keep(); tell(0); tell(0); check(1) = 0; check(30) = 1").times(60, "tell(0)").does("check(30) = 0");
        String wait = "The numbers that wait (none do then, whatever is answered)";
        tells(sureTown(e.on(43, wait)), 1).does("check(1) = NO; count(7) = 0; tell(1); check(0) = BAD; count(7) = 0; tell(1); "
            + "check(31) = BAD; count(7) = 0; keep(); tell(10); tell(1); check(1) = 0; count(7) = 0; tell(10); tell(2); check(1) = 2; "
            + "count(7) = 0; tell(5) = 1");
        String no = "BAD; NO: there is no IMAGE.";
        e.on(43, no).each("check(#) ! BAD", 0, -1, 31, MIN, MAX).does("check(1) ! NO; check(30) ! NO; tell(0); tell(0); check(1) ! NO; "
            + "tell(0); check(31) ! BAD");
        e.on(43, no).inTown().each("check(#) ! BAD", 0, -1, 31, MIN, MAX, Due.NONE);
        e.on(43, "and changes nothing (but the tape and the numbers that wait, where told).").inTown()
            .does("count(7) = 2; check(31) ! BAD; count(7) = 0");
    }

    private void checkOfWrongOnes() {
        String first = "else 1 and how many stand right ahead of the first that is not (or is missing, or one too many).";
        for (int wrong = 0; wrong < 6; wrong++) {
            Run x = sureTown(e.on(43, first)).does("keep()");
            for (int i = 0; i < 6; i++) {
                int right = i % 2 == 0 ? 10 * (i / 2 + 1) : i / 2 + 1;
                // All behind the first wrong one are right again, and do not count.
                x.does("tell(" + (i == wrong ? right + 1 : right) + ")");
            }
            x.does("check(3) = " + (1 + wrong));
        }
        for (int given = 0; given < 6; given++) {
            Run x = sureTown(e.on(43, first)).does("keep()");
            for (int i = 0; i < given; i++) {
                x.does("tell(" + (i % 2 == 0 ? 10 * (i / 2 + 1) : i / 2 + 1) + ")");
            }
            x.does("check(3) = " + (1 + given));
        }
        // A number that is right in the next one's place is not right in its own.
        tells(sureTown(e.on(43, first)).does("keep()"), 1).does("tell(2); tell(20); check(2) = 3");
        tells(sureTown(e.on(43, first)).does("keep()"), 1).does("tell(20); check(1) = 3");
        tells(sureTown(e.on(43, first)).does("keep()"), 3).does("check(1) = 3");
        tells(sureTown(e.on(43, first)).does("keep()"), 30).does("check(29) = 59");
        tells(sureTown(e.on(43, first)).does("keep()"), 29).does("tell(300); check(30) = 60");
        tells(sureTown(e.on(43, first)).does("keep()"), 29).does("tell(300); tell(31); check(30) = 60");
        tells(sureTown(e.on(43, first)).does("keep()"), 29).does("check(30) = 59");
    }

    private void nightsTold() {
        String told = "THE NIGHTS TOLD: of n NIGHTS, one behind the other, by THE IMAGE: TAKEN and CAUGHT behind each.";
        // By the image, whatever there is now, and the image stays as it is.
        Run x = sureTown(e.on(43, told)).does("nights(2) = 20; keep(); tell(30); tell(3); check(1) = 0; tell(30); tell(3); tell(40); "
            + "tell(4); check(2) = 0");
        x.does("set(0, 1, 11); wire(0, 0, 0); turns(0, 0); thief(1, 1); 'come 0'; 'gain 0'; seed(9); nights(5); tell(30); tell(3); "
            + "tell(40); tell(4); check(2) = 0; count(9) = " + Due.drawn(9, 5 * 4));
        x.does("count(3) = 165; back() = 2; count(3) = 20; count(4) = 2; nights(1) = 30; count(4) = 3");
        // By the laws of the image: the first of them lets nobody come, the one told later lets all come.
        sureTown(e.on(43, told)).does("'come 0' = 0; keep(); 'come 100' = 1; nights(1) = 10; tell(17); tell(0); tell(34); tell(0); "
            + "check(2) = 0; back(); nights(1) = 17; count(4) = 0");
        Run lucky = e.on(43, told).does("house(50, 100); house(40, 100); house(30, 100); door(0, 10); door(1, 70); wire(0, 0, 1); "
            + "wire(1, 0, 2); thief(0, 2); thief(1, 2); seed(MIN); nights(3); keep()");
        int[] row = new int[20];
        for (int i = 0; i < 20; i += 2) {
            row[i] = lucky.asks("nights(1)");
            row[i + 1] = lucky.asks("count(4)");
        }
        lucky.does("house(0, 0); patience(0); change(2, 0, 100)");
        for (int again = 0; again < 2; again++) {
            for (int v : row) {
                lucky.does("tell(" + v + ")");
            }
            lucky.does("check(10) = 0");
        }
    }

    private void keep() {
        e.on(44, "AN IMAGE is kept: how many DOORS.").does("keep() = 0; back() = 0; deal(1)").times(12, "door(0, 1)")
            .does("keep() = 12; back() = 12; count(1) = 12");
        Run anew = e.on(44, "AN IMAGE is kept: how many DOORS.").does("deal(2); door(0, 1); keep() = 1; door(0, 1); keep() = 2; "
            + "door(0, 1); back() = 2; count(1) = 2");
        anew.does("patience(9); keep() = 2; patience(8); back() = 2; count(5) = 9");
        String all = "AN IMAGE keeps all but SHEETS, SLOTS, numbers that wait, THE TAPE;";
        Run x = e.on(44, all).inTown().does("seed(55); nights(3)");
        int[] counts = new int[10];
        for (int what = 0; what < 10; what++) {
            counts[what] = x.asks("count(" + what + ")");
        }
        x.does("keep() = 3; agree(0, 2, 1); agree(1, 3, 0); patience(24); deal(3); door(3, 3); set(0, 1, 1); set(1, 2, 9); set(0, 2, 8); "
            + "wire(0, 0, NONE); wire(2, 1, 3); turns(0, 5); turns(2, 4); thief(0, 3); seed(3); nights(9)")
            .does("change(0, 0, 1); change(1, 1, 2); 'come 1'; 'gain 2'; 'may 0'; back() = 3");
        for (int what : new int[] {0, 1, 2, 3, 4, 5, 6, 9}) {
            x.does("count(" + what + ") = " + counts[what]);
        }
        x.does("houseTold(0, 0) = 80; houseTold(1, 1) = 100; houseTold(0, 5) = 0; houseTold(1, 5) = 8; houseTold(3, 5) = 2; "
            + "doorTold(0, 1) = 501; doorTold(0, 2) = 1; doorTold(1, 2) = 4; doorTold(0, 3) = 1; doorTold(2, 4) = 1")
            .does("told(0, 0) = 0; told(2, 0) = 3; why(0) = 0; why(1) = NONE; why(2) = 1; doorTold(2, 5) = 1; houseTold(4, 0) = BAD; "
                + "doorTold(3, 0) = BAD; told(3, 0) = BAD; textTold(2, 0) = BAD");
    }

    private void back() {
        e.on(45, "All is as THE IMAGE: how many DOORS.").does("keep(); deal(2); door(0, 1); back() = 0; count(0) = 0; count(1) = 0; "
            + "count(9) = 1; deal(2); door(0, 1); keep(); door(1, 1); back() = 1; count(1) = 1; doorTold(1, 0) = BAD");
        e.on(45, "NO: there is none.").does("back() ! NO; deal(2); back() ! NO; count(0) = 2; keep(); back() = 0; back() = 0");
        String again = "all can become as it is (again and again).";
        Run x = sureTown(e.on(45, again)).does("seed(4); keep() = 2");
        for (int i = 0; i < 4; i++) {
            x.does("nights(5) = 50; count(4) = 5; house(1, 1) = 2; set(0, 1, 999); turns(1, 5); 'come 100' = 0; wire(0, 1, 0); "
                + "back() = 2; count(0) = 2; count(3) = 0; count(4) = 0; count(9) = 4; told(1, 0) = 1; doorTold(0, 1) = 10; "
                + "doorTold(0, 4) = NONE; count(6) = 0");
        }
        // What is made anew behind an image has nothing of what stood there before.
        e.on(45, again).does("deal(2); keep(); house(5, 5); door(2, 9); set(0, 2, 9); wire(0, 0, 2); wire(0, 1, 1); agree(2, 0, 1); "
            + "'may 0' = 0; back(); house(6, 6) = 2; houseTold(2, 5) = 0; houseTold(0, 5) = 0; door(2, 8) = 0; doorTold(0, 2) = 1; "
            + "doorTold(0, 3) = NONE; doorTold(0, 4) = NONE; houseTold(2, 2) = 0; why(2) = NONE; 'come 3' = 0; textTold(0, 0) = 0");
    }

    /** As much as there can be of all, so that the last of each is kept, too. */
    private void allOfAll() {
        Run x = e.on(45, "All is as THE IMAGE: how many DOORS.");
        for (int h = 0; h < 10; h++) {
            x.does("house(" + h + ", " + (100 - h) + ")");
        }
        for (int d = 0; d < 12; d++) {
            x.does("door(" + d % 10 + ", " + (900 + d) + "); wire(" + d + ", 0, " + (d + 1) % 10 + "); "
                + "wire(" + d + ", 1, " + (d + 2) % 10 + "); set(" + d + ", 2, " + d % 9 + ")");
        }
        for (int t = 0; t < 6; t++) {
            x.does("thief(" + t + ", " + (9 - t) + ")");
        }
        x.does("agree(8, 9, 1)").times(14, "'gain 1'").does("keep() = 12; agree(8, 9, 0); agree(0, 1, 1); sheet(0, 0, 24); pour(0)");
        for (int i = 0; i < 12; i++) {
            x.does("set(" + i + ", 1, 0); set(" + i + ", 2, 9); change(" + i % 10 + ", 0, 50); change(" + i % 10 + ", 1, 50); "
                + "turns(" + i % 6 + ", 0)");
        }
        x.does("back() = 12; houseTold(0, 5) = 0; houseTold(1, 5) = 0; houseTold(8, 5) = 512; houseTold(9, 5) = 256; count(6) = 14; "
            + "why(1) = 13");
        for (int d = 0; d < 12; d++) {
            x.does("doorTold(" + d + ", 1) = " + (900 + d) + "; doorTold(" + d + ", 2) = " + d % 9 + "; "
                + "doorTold(" + d + ", 3) = " + (d + 1) % 10 + "; doorTold(" + d + ", 4) = " + (d + 2) % 10);
        }
        for (int h = 0; h < 10; h++) {
            x.does("houseTold(" + h + ", 0) = " + h + "; houseTold(" + h + ", 1) = " + (100 - h));
        }
        for (int t = 0; t < 6; t++) {
            x.does("told(" + t + ", 0) = " + t + "; told(" + t + ", 1) = " + (9 - t));
        }
    }

    private void notKept() {
        String all = "AN IMAGE keeps all but SHEETS, SLOTS, numbers that wait, THE TAPE;";
        e.on(45, all).does("deal(3); thief(0, 2); sheet(0, 0, 2); sheet(1, 1, 2); lay(0, 3, 5); tell(1); feed(1, 1, 1); keep(); "
            + "mark(0, 1, 9); sheet(1, -1, 0); sheet(2, 1, 24); lay(0, 1, 0); lay(1, 2, 0); tell(2); feed(1, 1, 1); turns(0, 5); back()")
            .does("count(7) = 2; count(8) = 24; told(0, 0) = 0; ask(0, 0) = 2; item(1, 1) = 9; pour(1) = NOTHING; mark(2, 23, 1) = 1; "
                + "lay(2, 2, 0); item(2, 1) = 9");
        e.on(44, all).does("sheet(0, 0, 2); lay(0, 3, 5); tell(1); feed(1, 1, 1); keep(); count(7) = 1; count(8) = 12; rest(0, 9) = 5; "
            + "mark(0, 1, 1) = 1");
        e.on(45, all).does("keep(); 'come a' = 0; feed(1, 1, 1); trim(0); back(); count(6) = 0; tell(0); keep(); check(1) = 2; "
            + "count(7) = 0; back(); count(7) = 0");
    }

    private void count() {
        String told = "How many: 0 HOUSES, 1 DOORS, 2 THIEVES, 3 TAKEN, 4 CAUGHT, 5 PATIENCE, 6 TEXTS, 7 numbers that wait, 8 bytes of THE TAPE, 9 z.";
        Run x = sureTown(e.on(46, told)).does("house(1, 1); door(2, 0); door(2, 0); thief(5, 2)").times(5, "'may 1'")
            .does("patience(20); seed(77); nights(3)").times(7, "tell(0)").does("feed(0, 0, 0); trim(11)");
        x.does("count(0) = 3; count(1) = 4; count(2) = 3; count(5) = 20; count(6) = 5; count(7) = 7; count(8) = 11; "
            + "count(9) = " + Due.drawn(77, 3 * 4));
        sureTown(e.on(46, told)).does("nights(60) = 600; count(3) = 600; count(4) = 60; nights(1); count(3) = 610; count(4) = 61");
        e.on(46, "BAD.").inTown().each("count(#) ! BAD", -1, 10, MIN, MAX, Due.NONE);
    }

    private void manyCalls() {
        String most = "An object is used for at most 512 calls after it has been made; what later calls answer is free.";
        Run seeds = e.on(46, most);
        for (int i = 0; i < 511; i++) {
            seeds.does("seed(" + (i + 2) + ") = " + (i + 1));
        }
        seeds.does("count(9) = 512");
        Run texts = e.on(30, most).does("house(1, 1); keep()");
        for (int i = 0; i < 42; i++) {
            texts.does("'come " + i + "+" + "(0)+".repeat(20) + "0' = 0; back() = 0");
        }
        Run nights = e.on(19, most).does("deal(10)").times(12, "door(0, 999)").times(6, "thief(1, 1)").does("'come 0'");
        for (int i = 1; i <= 480; i++) {
            nights.does("nights(60) = " + i * 60 * 6 * 999);
        }
    }
}
