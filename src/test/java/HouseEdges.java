/** Sentences that bound houses and doors: promises 1 to 11. */
final class HouseEdges {
    private static final int MIN = Integer.MIN_VALUE, MAX = Integer.MAX_VALUE;
    private final Edges e;

    HouseEdges(Edges e) {
        this.e = e;
    }

    void all() {
        newObject();
        house();
        houseTold();
        loadAndHears();
        comes();
        change();
        agree();
        patience();
        deal();
        door();
        doorTold();
        lawful();
        set();
        wire();
    }

    private void newObject() {
        e.on(1, "As told; no HOUSES.").does("count(0) = 0; count(1) = 0; count(2) = 0; count(6) = 0; count(7) = 0; count(8) = 0");
        e.on(1, "As told; no HOUSES.").does("houseTold(0, 0) ! BAD; doorTold(0, 0) ! BAD; told(0, 0) ! BAD; textTold(0, 0) ! BAD; "
            + "back() ! NO");
        e.on(1, "two may AGREE (none do at first).").does("deal(10)").each("houseTold(#, 5) = 0", 0, 1, 2, 3, 4, 5, 6, 7, 8, 9);
        e.on(1, "NOISE 0 .. 9 (1 at first)").does("house(1, 1); door(0, 1); door(0, 2); doorTold(0, 2) = 1; doorTold(1, 2) = 1");
        e.on(1, "two BELLS: each in a HOUSE, or none (both at first).")
            .does("house(1, 1); door(0, 1); doorTold(0, 3) = NONE; doorTold(0, 4) = NONE");
        e.on(1, "PATIENCE is 0 .. 24 (3 at first).").does("count(5) = 3; patience(3) = 3");
        e.on(1, "TAKEN (0 at first)").does("count(3) = 0");
        e.on(1, "CAUGHT (0 at first)").does("count(4) = 0");
        e.on(1, "z is told (1 at first).").does("count(9) = 1");
        e.on(1, "or MISSING (at first).").each("pour(#) = NOTHING", 0, 1, 2, 3);
        e.on(1, "SLOTS 0 .. 4 each hold nothing (at first),").each("lay(#, 0, 0) = 0", 0, 1, 2, 3, 4);
    }

    private void house() {
        Run ten = e.on(2, "HOUSES, 10 at most, numbered from 0:");
        for (int h = 0; h < 10; h++) {
            ten.does("house(" + h + ", 50) = " + h);
        }
        ten.does("house(0, 0) ! FULL; house(100, 100) ! FULL; count(0) = 10; houseTold(9, 0) = 9; houseTold(0, 0) = 0; "
            + "houseTold(10, 0) ! BAD");
        e.on(2, "AWAKE 0 .. 100,").does("house(0, 50) = 0; house(100, 50) = 1; houseTold(0, 0) = 0; houseTold(1, 0) = 100")
            .each("house(#, 50) ! BAD", -1, 101, MIN, MAX, Due.NONE);
        e.on(2, "CARES 0 .. 100 (hundredths);").does("house(50, 0) = 0; house(50, 100) = 1; houseTold(0, 1) = 0; houseTold(1, 1) = 100")
            .each("house(50, #) ! BAD", -1, 101, MIN, MAX, Due.NONE);
        e.on(2, "One more HOUSE: its number.").does("house(1, 2) = 0; count(0) = 1; house(1, 2) = 1; count(0) = 2; houseTold(1, 0) = 1; "
            + "houseTold(1, 1) = 2");
        e.on(2, "BAD; FULL.").inTown().does("house(-1, 0) ! BAD; house(0, 101) ! BAD; house(101, -1) ! BAD");
        e.on(2, "BAD; FULL.").does("deal(10); house(101, 0) ! BAD; house(0, -1) ! BAD; house(0, 0) ! FULL");
    }

    private void houseTold() {
        e.on(3, "Of a HOUSE: what 0 AWAKE, 1 CARES, 2 LOAD, 3 HEARS, 4 COMES, 5 with whom it AGREES (bits).")
            .does("house(40, 60); deal(9); door(9, 1); set(0, 2, 7); wire(0, 1, 0); agree(0, 9, 1); agree(2, 0, 1)")
            .does("houseTold(0, 0) = 40; houseTold(0, 1) = 60; houseTold(0, 2) = 1; houseTold(0, 3) = 7; houseTold(0, 4) = 24; "
                + "houseTold(0, 5) = 516")
            .does("houseTold(9, 5) = 1; houseTold(2, 5) = 1; houseTold(1, 5) = 0");
        e.on(3, "BAD.").inTown().each("houseTold(#, 0) ! BAD", -1, 4, 10, MIN, MAX, Due.NONE).each("houseTold(0, #) ! BAD", -1, 6, MIN, MAX)
            .does("houseTold(4, 6) ! BAD; houseTold(3, 5) = 2");
    }

    private void loadAndHears() {
        Run most = e.on(3, "LOAD of a HOUSE: how many BELLS of all DOORS are in it.").does("deal(2); houseTold(0, 2) = 0");
        fill(most, 1);
        most.does("houseTold(0, 2) = 24; houseTold(1, 2) = 0; wire(11, 1, 1); houseTold(0, 2) = 23; houseTold(1, 2) = 1; "
            + "wire(0, 0, NONE); houseTold(0, 2) = 22");
        e.on(3, "LOAD of a HOUSE: how many BELLS of all DOORS are in it.")
            .does("deal(2); door(0, 1); wire(0, 0, 0); houseTold(0, 2) = 1; wire(0, 1, 0); houseTold(0, 2) = 2; set(0, 2, 0); "
                + "houseTold(0, 2) = 2");
        Run loud = e.on(3, "HEARS: NOISE of all DOORS, for each BELL of theirs that is in it.").does("deal(2); houseTold(0, 3) = 0");
        fill(loud, 1);
        loud.does("houseTold(0, 3) = 24; houseTold(1, 3) = 0");
        for (int d = 0; d < 12; d++) {
            loud.does("set(" + d + ", 2, 9)");
        }
        loud.does("houseTold(0, 3) = 216; wire(0, 0, 1); houseTold(0, 3) = 207; houseTold(1, 3) = 9; set(11, 2, 0); "
            + "houseTold(0, 3) = 189; wire(1, 0, NONE); houseTold(0, 3) = 180");
    }

    /** Twelve doors of a house, with all their bells in house 0. */
    private static void fill(Run x, int owner) {
        for (int d = 0; d < 12; d++) {
            x.does("door(" + owner + ", 1); wire(" + d + ", 0, 0); wire(" + d + ", 1, 0)");
        }
    }

    private void comes() {
        e.on(3, "COMES of a HOUSE: what come gives, held within 0 .. 100")
            .does("house(50, 50); 'come 100' = 0; houseTold(0, 4) = 100; 'come 101' = 1; houseTold(0, 4) = 100")
            .does("'come 0' = 2; houseTold(0, 4) = 0; 'come 0-1' = 3; houseTold(0, 4) = 0; 'come 99' = 4; houseTold(0, 4) = 99; "
                + "'come 1' = 5; houseTold(0, 4) = 1")
            .does("'come 8192*8192*32' = 6; houseTold(0, 4) = 0; 'come 8192*8192*32-1' = 7; houseTold(0, 4) = 100");
        String plainly = "(without a TEXT: AWAKE times CARES / 100, less 10 times what LOAD is above PATIENCE; held likewise).";
        e.on(3, plainly).does("house(100, 100); house(0, 100); house(100, 0); house(1, 99); house(99, 99); house(50, 33); house(1, 100)")
            .does("houseTold(0, 4) = 100; houseTold(1, 4) = 0; houseTold(2, 4) = 0; houseTold(3, 4) = 0; houseTold(4, 4) = 98; "
                + "houseTold(5, 4) = 16; houseTold(6, 4) = 1");
        e.on(3, plainly).does("house(100, 100); house(0, 0); door(1, 1); door(1, 1); wire(0, 0, 0); wire(0, 1, 0); wire(1, 0, 0); "
            + "houseTold(0, 4) = 100")
            .does("wire(1, 1, 0); houseTold(0, 4) = 90; patience(4); houseTold(0, 4) = 100; patience(0); houseTold(0, 4) = 60");
        e.on(3, plainly).does("house(11, 100); house(0, 0); patience(0); door(1, 1); wire(0, 0, 0); houseTold(0, 4) = 1; "
            + "change(0, 0, 10); houseTold(0, 4) = 0")
            .does("change(0, 0, 9); houseTold(0, 4) = 0; wire(0, 1, 0); houseTold(0, 4) = 0; patience(24); houseTold(0, 4) = 9");
        Run all = e.on(3, plainly).does("house(100, 100); patience(24)");
        fill(all, 0);
        all.does("houseTold(0, 4) = 100; patience(23); houseTold(0, 4) = 90; patience(15); houseTold(0, 4) = 10; patience(14); "
            + "houseTold(0, 4) = 0; patience(0); houseTold(0, 4) = 0");
        e.on(3, "All numbers are whole; / cuts towards 0.").does("house(99, 1); house(33, 3); house(67, 3); houseTold(0, 4) = 0; "
            + "houseTold(1, 4) = 0; houseTold(2, 4) = 2")
            .does("'come 50+(0-7)/2'; houseTold(0, 4) = 47; 'come 50+7/(0-2)'; houseTold(0, 4) = 47; 'come 50+(0-1)/9999'; "
                + "houseTold(0, 4) = 50");
    }

    private void change() {
        e.on(4, "AWAKE (what 0), CARES (1) of a HOUSE becomes v: what it was.").does("house(10, 20); house(30, 40)")
            .does("change(0, 0, 11) = 10; change(0, 0, 12) = 11; change(0, 1, 21) = 20; change(0, 1, 22) = 21; houseTold(0, 0) = 12; "
                + "houseTold(0, 1) = 22")
            .does("change(1, 0, 30) = 30; houseTold(1, 0) = 30; houseTold(1, 1) = 40");
        e.on(4, "AWAKE 0 .. 100,").does("house(10, 20); change(0, 0, 0) = 10; change(0, 0, 100) = 0; houseTold(0, 0) = 100")
            .each("change(0, 0, #) ! BAD", -1, 101, MIN, MAX, Due.NONE);
        e.on(4, "CARES 0 .. 100 (hundredths);").does("house(10, 20); change(0, 1, 0) = 20; change(0, 1, 100) = 0; houseTold(0, 1) = 100")
            .each("change(0, 1, #) ! BAD", -1, 101, MIN, MAX, Due.NONE);
        e.on(4, "BAD.").inTown().each("change(#, 0, 5) ! BAD", -1, 4, 10, MIN, MAX).each("change(0, #, 5) ! BAD", -1, 2, MIN, MAX)
            .does("change(0, 0, 101) ! BAD; change(3, 1, -1) ! BAD");
    }

    private void agree() {
        String both = "Two HOUSES AGREE (v 1) or not (0): what it was.";
        e.on(5, both).does("deal(10); agree(0, 9, 0) = 0; agree(0, 9, 1) = 0; agree(0, 9, 1) = 1; agree(9, 0, 1) = 1; "
            + "houseTold(0, 5) = 512; houseTold(9, 5) = 1")
            .does("agree(9, 0, 0) = 1; agree(0, 9, 0) = 0; houseTold(0, 5) = 0; houseTold(9, 5) = 0");
        e.on(5, both).does("deal(3); agree(0, 1, 1) = 0; agree(1, 2, 1) = 0; agree(0, 2, 0) = 0; houseTold(0, 5) = 2; "
            + "houseTold(1, 5) = 5; houseTold(2, 5) = 2");
        e.on(5, "two may AGREE (none do at first).").does("deal(2); agree(1, 0, 0) = 0; agree(0, 1, 1) = 0; house(1, 1); "
            + "houseTold(2, 5) = 0");
        e.on(5, "BAD: also one and itself.").inTown().each("agree(#, #, 1) ! BAD", 0, 1, 3).each("agree(#, #, 0) ! BAD", 0, 3)
            .each("agree(#, 1, 1) ! BAD", -1, 4, MIN, MAX).each("agree(1, #, 0) ! BAD", -1, 4, MIN, MAX)
                .each("agree(0, 1, #) ! BAD", -1, 2, MIN, MAX);
    }

    private void patience() {
        e.on(6, "PATIENCE becomes v: what it was.").does("patience(7) = 3; patience(7) = 7; patience(8) = 7; count(5) = 8");
        e.on(6, "PATIENCE is 0 .. 24 (3 at first).").does("patience(0) = 3; patience(24) = 0; count(5) = 24");
        e.on(6, "BAD.").inTown().each("patience(#) ! BAD", -1, 25, MIN, MAX, Due.NONE);
    }

    private void deal() {
        e.on(7, "HOUSES are drawn, n (1 .. 10) of them,").does("deal(1) = 1; count(0) = 1");
        e.on(7, "HOUSES are drawn, n (1 .. 10) of them,").does("deal(10) = 10; count(0) = 10; count(9) = " + Due.drawn(1, 20));
        Run room = e.on(7, "as many as there is room for (no draws for others): how many came.")
            .does("deal(7) = 7; deal(4) = 3; count(0) = 10; count(9) = " + Due.drawn(1, 20));
        room.does("deal(1) = 0; deal(10) = 0; count(9) = " + Due.drawn(1, 20));
        e.on(7, "as many as there is room for (no draws for others): how many came.").does("deal(8) = 8; deal(2) = 2; deal(1) = 0");
        e.on(7, "BAD.").inTown().each("deal(#) ! BAD", 0, -1, 11, MIN, MAX);
        e.on(7, "BAD.").does("deal(10); deal(0) ! BAD; deal(11) ! BAD");
        String rests = "HOUSES that are drawn: AWAKE, CARES the rests of two draws by 101.";
        e.on(7, rests).does("seed(" + Due.seedFor(0, 101, 1) + "); deal(1); houseTold(0, 0) = 0");
        e.on(7, rests).does("seed(" + Due.seedFor(100, 101, 1) + "); deal(1); houseTold(0, 0) = 100");
        e.on(7, rests).does("seed(" + Due.seedFor(0, 101, 2) + "); deal(1); houseTold(0, 1) = 0");
        e.on(7, rests).does("seed(" + Due.seedFor(100, 101, 2) + "); deal(1); houseTold(0, 1) = 100");
        Run row = e.on(7, rests).does("deal(3)");
        for (int i = 0; i < 6; i++) {
            row.does("houseTold(" + i / 2 + ", " + i % 2 + ") = " + (Due.drawn(1, i + 1) >>> 8) % 101);
        }
    }

    private void door() {
        Run twelve = e.on(8, "DOORS, 12 at most, numbered from 0:").does("house(1, 1)");
        for (int d = 0; d < 12; d++) {
            twelve.does("door(0, " + 10 * d + ") = " + d);
        }
        twelve.does("door(0, 0) ! FULL; door(0, 999) ! FULL; count(1) = 12; doorTold(11, 1) = 110; doorTold(0, 1) = 0; "
            + "doorTold(12, 1) ! BAD");
        e.on(8, "of a HOUSE, a WORTH 0 .. 999,").does("deal(10); door(0, 0) = 0; door(9, 999) = 1; doorTold(0, 1) = 0; "
            + "doorTold(1, 1) = 999; doorTold(1, 0) = 9")
            .each("door(0, #) ! BAD", -1, 1000, MIN, MAX, Due.NONE).each("door(#, 1) ! BAD", -1, 10, MIN, MAX, Due.NONE);
        e.on(8, "One more DOOR of a HOUSE: its number.").does("deal(2); door(1, 5) = 0; count(1) = 1; door(1, 5) = 1; count(1) = 2; "
            + "doorTold(1, 0) = 1; doorTold(1, 1) = 5");
        e.on(8, "BAD; FULL.").inTown().does("door(4, 0) ! BAD; door(-1, 0) ! BAD; door(0, 1000) ! BAD; door(0, -1) ! BAD");
        e.on(8, "BAD; FULL.").does("house(1, 1)").times(12, "door(0, 1)").does("door(1, 0) ! BAD; door(0, 1000) ! BAD; door(0, 0) ! FULL");
    }

    private void doorTold() {
        e.on(9, "Of a DOOR: what 0 HOUSE, 1 WORTH, 2 NOISE, 3, 4 the HOUSE of its one, of its other BELL (NONE), 5 whether LAWFUL (1, 0).")
            .does("deal(10); door(5, 77); doorTold(0, 0) = 5; doorTold(0, 1) = 77; doorTold(0, 2) = 1; doorTold(0, 3) = NONE; "
                + "doorTold(0, 4) = NONE; doorTold(0, 5) = 0")
            .does("wire(0, 0, 9); doorTold(0, 3) = 9; doorTold(0, 4) = NONE; wire(0, 1, 0); doorTold(0, 3) = 9; doorTold(0, 4) = 0; "
                + "doorTold(0, 5) = 1; set(0, 2, 0); doorTold(0, 2) = 0");
        e.on(9, "NONE: there is none.").does("deal(2); door(0, 1); doorTold(0, 3) = NONE; wire(0, 0, 1); doorTold(0, 3) = 1; "
            + "wire(0, 0, NONE); doorTold(0, 3) = NONE");
        e.on(9, "BAD.").inTown().each("doorTold(#, 0) ! BAD", -1, 3, 12, MIN, MAX, Due.NONE).each("doorTold(0, #) ! BAD", -1, 6, MIN, MAX)
            .does("doorTold(2, 5) = 1");
    }

    private void lawful() {
        String unlike = "LAWFUL is a DOOR, if its BELLS are in two unlike HOUSES, none of them its own, that do not AGREE,";
        Run x = e.on(9, unlike).does("deal(10); door(4, 1)");
        int[][] wired = {{0, 9, 1}, {9, 0, 1}, {0, 0, 0}, {4, 0, 0}, {0, 4, 0}, {4, 4, 0}, {Due.NONE, 0, 0}, {0, Due.NONE, 0},
            {Due.NONE, Due.NONE, 0}, {3, 5, 1}};
        for (int[] w : wired) {
            x.does("wire(0, 0, " + w[0] + "); wire(0, 1, " + w[1] + "); doorTold(0, 5) = " + w[2]);
        }
        e.on(9, unlike).does("deal(4); door(0, 1); wire(0, 0, 1); wire(0, 1, 2); agree(1, 2, 1); doorTold(0, 5) = 0; agree(2, 1, 0); "
            + "doorTold(0, 5) = 1")
            .does("agree(0, 1, 1); agree(0, 2, 1); agree(1, 3, 1); doorTold(0, 5) = 1");
        String may = "and if what may gives is not 0 (without a TEXT: it is not asked).";
        e.on(9, may).does("deal(4); door(0, 1); wire(0, 0, 1); wire(0, 1, 2); doorTold(0, 5) = 1; 'may 0'; doorTold(0, 5) = 0; 'may 1'; "
            + "doorTold(0, 5) = 1")
            .does("'may 0-1'; doorTold(0, 5) = 1; 'may 8192*8192*64'; doorTold(0, 5) = 0; 'may 2'; doorTold(0, 5) = 1; 'may 1'; "
                + "agree(1, 2, 1); doorTold(0, 5) = 0");
        e.on(9, may).does("deal(4); door(0, 1); 'may 1'; doorTold(0, 5) = 0; wire(0, 0, 1); doorTold(0, 5) = 0; wire(0, 1, 1); "
            + "doorTold(0, 5) = 0; wire(0, 1, 0); doorTold(0, 5) = 0");
        e.on(9, may).does("deal(4); door(0, 1); wire(0, 0, 1); wire(0, 1, 2); 'come 0'; 'gain 0'; doorTold(0, 5) = 1");
    }

    private void set() {
        e.on(10, "WORTH (what 1), NOISE (2) of a DOOR becomes v: what it was.")
            .does("house(1, 1); door(0, 5); door(0, 6); set(0, 1, 7) = 5; set(0, 1, 8) = 7; set(0, 2, 3) = 1; set(0, 2, 4) = 3")
            .does("doorTold(0, 1) = 8; doorTold(0, 2) = 4; doorTold(1, 1) = 6; doorTold(1, 2) = 1; doorTold(0, 0) = 0");
        e.on(10, "of a HOUSE, a WORTH 0 .. 999,").does("house(1, 1); door(0, 5); set(0, 1, 0) = 5; set(0, 1, 999) = 0; "
            + "doorTold(0, 1) = 999").each("set(0, 1, #) ! BAD", -1, 1000, MIN, MAX, Due.NONE);
        e.on(10, "NOISE 0 .. 9 (1 at first)").does("house(1, 1); door(0, 5); set(0, 2, 0) = 1; set(0, 2, 9) = 0; doorTold(0, 2) = 9")
            .each("set(0, 2, #) ! BAD", -1, 10, MIN, MAX, Due.NONE);
        e.on(10, "BAD.").inTown().each("set(#, 1, 1) ! BAD", -1, 3, 12, MIN, MAX).each("set(0, #, 1) ! BAD", 0, 3, -1, MIN, MAX)
            .does("set(0, 1, 1000) ! BAD; set(0, 2, 10) ! BAD; set(2, 0, 0) ! BAD");
    }

    private void wire() {
        e.on(11, "A BELL (0, 1) of a DOOR comes to a HOUSE (NONE: none): where it was (NONE).")
            .does("deal(10); door(5, 1); door(5, 1); wire(0, 0, 0) = NONE; wire(0, 0, 9) = 0; wire(0, 0, 9) = 9; wire(0, 1, 5) = NONE; "
                + "wire(0, 1, NONE) = 5; wire(0, 1, NONE) = NONE")
            .does("doorTold(0, 3) = 9; doorTold(0, 4) = NONE; doorTold(1, 3) = NONE; doorTold(1, 4) = NONE");
        Run doors = e.on(11, "A BELL (0, 1) of a DOOR comes to a HOUSE (NONE: none): where it was (NONE).").does("deal(10)")
            .times(12, "door(0, 1)");
        for (int d = 0; d < 12; d++) {
            doors.does("wire(" + d + ", 0, " + d % 10 + ") = NONE; wire(" + d + ", 1, " + (9 - d % 10) + ") = NONE");
        }
        for (int d = 0; d < 12; d++) {
            doors.does("wire(" + d + ", 1, 0) = " + (9 - d % 10) + "; wire(" + d + ", 0, 9) = " + d % 10);
        }
        e.on(11, "two BELLS: each in a HOUSE, or none (both at first).")
            .does("deal(2); door(0, 1); wire(0, 0, NONE) = NONE; wire(0, 1, NONE) = NONE; wire(0, 0, 1) = NONE; wire(0, 1, 1) = NONE; "
            + "houseTold(1, 2) = 2");
        e.on(11, "BAD.").inTown().each("wire(#, 0, 0) ! BAD", -1, 3, 12, MIN, MAX, Due.NONE).each("wire(0, #, 0) ! BAD", -1, 2, MIN, MAX)
            .each("wire(0, 0, #) ! BAD", -1, 4, 10, MIN, MAX, Due.BAD, Due.NO, Due.FULL, Due.NOTHING)
                .does("wire(3, 0, NONE) ! BAD; wire(0, 2, NONE) ! BAD");
    }
}
