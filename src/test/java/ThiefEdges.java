/** Sentences that bound thieves, what they heed and choose, and their nights: promises 12 to 20. */
final class ThiefEdges {
    private static final int MIN = Integer.MIN_VALUE, MAX = Integer.MAX_VALUE;
    // Of each kind those that it is of: itself and those above it.
    private static final int[][] OF = {{0}, {0, 1}, {0, 2}, {0, 1, 3}, {0, 2, 4}, {0, 5}};
    private final Edges e;

    ThiefEdges(Edges e) {
        this.e = e;
    }

    void all() {
        thief();
        told();
        as();
        turns();
        at();
        missed();
        gain();
        open();
        heed();
        choice();
        choiceByLot();
        choiceOfTheGreatest();
        nights();
        aNight();
        draws();
        seed();
    }

    /** Whether a kind is that one or under it. */
    static boolean isOf(int kind, int wanted) {
        for (int k : OF[kind]) {
            if (k == wanted) {
                return true;
            }
        }
        return false;
    }

    private void thief() {
        Run six = e.on(12, "THIEVES, 6 at most, numbered from 0:").does("deal(6)");
        for (int t = 0; t < 6; t++) {
            six.does("thief(0, " + t + ") = " + t);
        }
        six.does("thief(0, 0) ! FULL; thief(5, 5) ! FULL; count(2) = 6; told(5, 1) = 5; told(0, 1) = 0; told(6, 0) ! BAD");
        e.on(12, "One more THIEF: his number.")
            .does("deal(2); thief(5, 1) = 0; count(2) = 1; thief(5, 1) = 1; count(2) = 2; told(1, 0) = 5; told(1, 1) = 1");
        e.on(12, "each of a HOUSE, and of KINDS: 0 THIEF; 1 KNOWING, 2 CUTTER, 5 FEASTING, under THIEF;")
            .does("deal(10); thief(0, 9) = 0; thief(5, 0) = 1; told(0, 1) = 9; told(1, 0) = 5")
            .each("thief(#, 0) ! BAD", -1, 6, MIN, MAX, Due.NONE).each("thief(0, #) ! BAD", -1, 10, MIN, MAX, Due.NONE);
        e.on(12, "BAD; FULL.").inTown().does("thief(6, 0) ! BAD; thief(-1, 0) ! BAD; thief(0, 4) ! BAD; thief(0, -1) ! BAD");
        e.on(12, "BAD; FULL.").does("thief(0, 0) ! BAD; house(1, 1)").times(6, "thief(0, 0)")
            .does("thief(6, 0) ! BAD; thief(0, 1) ! BAD; thief(0, 0) ! FULL");
    }

    private void told() {
        e.on(13, "Of a THIEF: what 0 KIND, 1 HOUSE, 2 WORTH.")
            .does("deal(10); thief(5, 9); thief(0, 3); told(0, 0) = 5; told(0, 1) = 9; told(0, 2) = 30; told(1, 0) = 0; told(1, 1) = 3; "
                + "told(1, 2) = 3");
        e.on(13, "WORTH of a THIEF: THIEF: the number of his HOUSE.").does("deal(10); thief(0, 0); thief(0, 9); told(0, 2) = 0; "
            + "told(1, 2) = 9");
        e.on(13, "KNOWING: as THIEF, and 10.").does("deal(10); thief(1, 0); thief(1, 9); told(0, 2) = 10; told(1, 2) = 19");
        e.on(13, "NEAR: twice as KNOWING.").does("deal(10); thief(3, 0); thief(3, 9); told(0, 2) = 20; told(1, 2) = 38");
        e.on(13, "CUTTER: as THIEF, less 1.").does("deal(10); thief(2, 0); thief(2, 1); thief(2, 9); told(0, 2) = -1; told(1, 2) = 0; "
            + "told(2, 2) = 8");
        e.on(13, "QUICK: as CUTTER, and 20.").does("deal(10); thief(4, 0); thief(4, 9); told(0, 2) = 19; told(1, 2) = 28");
        e.on(13, "FEASTING: 30.").does("deal(10); thief(5, 0); thief(5, 9); told(0, 2) = 30; told(1, 2) = 30");
        e.on(13, "BAD.").inTown().each("told(#, 0) ! BAD", -1, 3, 6, MIN, MAX, Due.NONE).each("told(0, #) ! BAD", -1, 3, MIN, MAX);
    }

    private void as() {
        e.on(14, "A THIEF as one of a KIND: his HOUSE.").does("deal(10); thief(3, 9); thief(3, 0); as(0, 0) = 9; as(0, 1) = 9; "
            + "as(0, 3) = 9; as(1, 3) = 0");
        tree(e.on(14, "3 NEAR, under KNOWING; 4 QUICK, under CUTTER (all are THIEVES)."));
        tree(e.on(14, "KIND: he is not of that KIND, nor of one under it."));
        e.on(14, "BAD: thief, kind;").inTown().each("as(#, 0) ! BAD", -1, 3, 6, MIN, MAX).each("as(0, #) ! BAD", -1, 6, MIN, MAX)
            .does("as(0, 1) ! KIND; as(3, 1) ! BAD; as(1, 3) ! KIND; as(2, 2) ! KIND");
    }

    /** Each kind taken for each other one. */
    private static void tree(Run x) {
        x.does("deal(4)");
        for (int kind = 0; kind < 6; kind++) {
            x.does("thief(" + kind + ", 3)");
            for (int wanted = 0; wanted < 6; wanted++) {
                x.does("as(" + kind + ", " + wanted + ") " + (isOf(kind, wanted) ? "= 3" : "! KIND"));
            }
        }
    }

    private void turns() {
        e.on(15, "A THIEF is of another KIND from now on: what he was.")
            .does("deal(3); thief(0, 2); thief(1, 1); turns(0, 5) = 0; told(0, 0) = 5; told(0, 1) = 2; told(0, 2) = 30; as(0, 5) = 2")
            .does("turns(0, 3) = 5; as(0, 1) = 2; as(0, 5) = KIND; told(0, 2) = 24; turns(0, 3) = 3; turns(0, 0) = 3; as(0, 1) = KIND; "
                + "told(0, 2) = 2")
            .does("turns(0, 4) = 0; turns(0, 2) = 4; turns(0, 1) = 2; told(0, 0) = 1; told(1, 0) = 1; told(1, 2) = 11; count(2) = 2");
        e.on(15, "BAD.").inTown().each("turns(#, 0) ! BAD", -1, 3, 6, MIN, MAX, Due.NONE).each("turns(0, #) ! BAD", -1, 6, MIN, MAX);
    }

    private void at() {
        e.on(16, "At a DOOR for a THIEF: what 0 MISSED, 1 GAIN, 2 whether OPEN (1, 0).")
            .does("house(40, 100); house(20, 100); door(0, 500); door(1, 50); wire(0, 0, 1); wire(1, 1, 0); thief(0, 0)")
            .does("at(0, 0, 0) = 8000; at(0, 0, 1) = 400; at(0, 0, 2) = 1; at(0, 1, 0) = 6000; at(0, 1, 1) = 30; at(0, 1, 2) = 0");
        e.on(16, "BAD.").inTown().each("at(#, 0, 0) ! BAD", -1, 3, 6, MIN, MAX).each("at(0, #, 1) ! BAD", -1, 3, 12, MIN, MAX)
            .each("at(0, 0, #) ! BAD", -1, 3, MIN, MAX).does("at(3, 3, 3) ! BAD");
    }

    private void missed() {
        String both = "MISSED at a DOOR: 100 less HEED of its one BELL, times 100 less HEED of the other one";
        e.on(16, both).does("house(100, 100); house(0, 100); house(1, 100); house(99, 100); door(0, 1); thief(0, 0)")
            .does("wire(0, 0, 1); wire(0, 1, 1); at(0, 0, 0) = 10000; wire(0, 1, 0); at(0, 0, 0) = 0; wire(0, 0, 0); at(0, 0, 0) = 0")
            .does("wire(0, 0, 2); wire(0, 1, 3); at(0, 0, 0) = 99; wire(0, 0, 3); at(0, 0, 0) = 1; wire(0, 1, 2); at(0, 0, 0) = 99; "
                + "wire(0, 0, 2); at(0, 0, 0) = 9801");
        e.on(16, both).does("house(50, 100); house(20, 100); door(0, 1); wire(0, 0, 0); wire(0, 1, 1); thief(0, 0); thief(3, 0); "
            + "thief(2, 0); thief(5, 0)")
            .does("at(0, 0, 0) = 4000; at(1, 0, 0) = 8000; at(2, 0, 0) = 6750; at(3, 0, 0) = 8000");
        e.on(16, "(100 for a BELL that is none).").does("house(100, 100); house(30, 100); door(0, 1); thief(0, 1); at(0, 0, 0) = 10000")
            .does("wire(0, 0, 1); at(0, 0, 0) = 7000; wire(0, 0, NONE); wire(0, 1, 1); at(0, 0, 0) = 7000; wire(0, 1, 0); "
                + "at(0, 0, 0) = 0; wire(0, 1, NONE); at(0, 0, 0) = 10000");
        e.on(16, "(100 for a BELL that is none).").does("'come 100'; house(0, 0); door(0, 1)").each("thief(#, 0)", 0, 1, 2, 3, 4, 5)
            .each("at(#, 0, 0) = 10000", 0, 1, 2, 3, 4, 5);
    }

    private void gain() {
        String told = "GAIN: what gain gives, held within 0 .. 99999";
        e.on(16, told).does("house(0, 0); door(0, 999); thief(0, 0); 'gain 9999*10+9'; at(0, 0, 1) = 99999; 'gain 9999*10+10'; "
            + "at(0, 0, 1) = 99999; 'gain 9999*10+8'; at(0, 0, 1) = 99998")
            .does("'gain 0'; at(0, 0, 1) = 0; 'gain 0-1'; at(0, 0, 1) = 0; 'gain 1'; at(0, 0, 1) = 1; 'gain 8192*8192*32'; "
                + "at(0, 0, 1) = 0; 'gain 8192*8192*32-1'; at(0, 0, 1) = 99999");
        String plainly = "(without a TEXT: WORTH times MISSED / 10000).";
        e.on(16, plainly).does("house(1, 100); door(0, 999); thief(0, 0); at(0, 0, 1) = 999; wire(0, 0, 0); at(0, 0, 1) = 989; "
            + "set(0, 1, 1); at(0, 0, 1) = 0; set(0, 1, 0); at(0, 0, 1) = 0")
            .does("wire(0, 0, NONE); at(0, 0, 1) = 0; set(0, 1, 1); at(0, 0, 1) = 1; set(0, 1, 999); change(0, 0, 100); wire(0, 1, 0); "
                + "at(0, 0, 1) = 0");
        e.on(16, plainly).does("house(1, 100); house(9, 100); door(0, 999); wire(0, 0, 0); wire(0, 1, 1); thief(0, 0); "
            + "at(0, 0, 0) = 9009; at(0, 0, 1) = 899");
        e.on(16, "All numbers are whole; / cuts towards 0.").does("house(50, 100); door(0, 3); thief(0, 0); wire(0, 0, 0); "
            + "at(0, 0, 1) = 1; set(0, 1, 1); at(0, 0, 1) = 0; set(0, 1, 2); at(0, 0, 1) = 1");
    }

    private void open() {
        String over = "A DOOR of his own HOUSE is OPEN to him: CHOICE and WORST pass it over.";
        e.on(16, over).does("deal(3); door(0, 1); door(2, 1); thief(5, 2); at(0, 0, 2) = 0; at(0, 1, 2) = 1; agree(0, 2, 1); "
            + "at(0, 0, 2) = 0; wire(0, 0, 2); at(0, 0, 2) = 0");
        e.on(18, over).does("deal(2); door(0, 999); door(1, 1); door(0, 999)").each("thief(#, 0)", 0, 1, 2, 3, 4, 5)
            .each("choice(#) = 1", 0, 1, 2, 3, 4, 5);
        e.on(24, over).does("deal(2); door(0, 999); door(1, 1); door(0, 999); thief(0, 0); worst(0) = 0; worst(1) = 1; worst(2) = 1");
    }

    private void heed() {
        e.on(17, "HEED of a HOUSE for a THIEF.").does("house(10, 100); house(70, 100); thief(0, 0); thief(2, 0); heed(0, 0) = 10; "
            + "heed(0, 1) = 70; heed(1, 0) = 5; heed(1, 1) = 35");
        e.on(17, "HEED of a BELL in a HOUSE: THIEF: COMES of it.").does("house(0, 100); house(100, 100); thief(0, 0); heed(0, 0) = 0; "
            + "heed(0, 1) = 100; 'come 101'; heed(0, 0) = 100; 'come 0-1'; heed(0, 1) = 0");
        cuts(e.on(17, "CUTTER: half (cut) of as THIEF."), 2, new int[][] {{0, 0}, {1, 0}, {2, 1}, {3, 1}, {99, 49}, {100, 50}});
        cuts(e.on(17, "FEASTING: as THIEF, less 30 (0 at least)."), 5, new int[][] {{0, 0}, {1, 0}, {29, 0}, {30, 0}, {31, 1}, {100, 70}});
        String near = "NEAR: as KNOWING; 0, if that HOUSE is his own, or AGREES with his own.";
        cuts(e.on(17, near), 3, new int[][] {{0, 0}, {1, 1}, {100, 100}});
        e.on(17, near).does("house(90, 100); house(91, 100); house(92, 100); thief(3, 1); heed(0, 0) = 90; heed(0, 1) = 0; "
            + "heed(0, 2) = 92; agree(1, 2, 1); heed(0, 2) = 0; heed(0, 0) = 90")
            .does("agree(0, 2, 1); heed(0, 0) = 90; agree(0, 1, 1); heed(0, 0) = 0; agree(2, 1, 0); heed(0, 2) = 92; thief(1, 1); "
                + "heed(1, 0) = 90; heed(1, 1) = 91");
        String above = "(A KIND that is not named does as the one above it.)";
        cuts(e.on(17, above), 1, new int[][] {{0, 0}, {1, 1}, {31, 31}, {100, 100}});
        cuts(e.on(17, above), 4, new int[][] {{1, 0}, {3, 1}, {31, 15}, {100, 50}});
        e.on(17, "BAD.").inTown().each("heed(#, 0) ! BAD", -1, 3, 6, MIN, MAX).each("heed(0, #) ! BAD", -1, 4, 10, MIN, MAX, Due.NONE);
    }

    /** What a thief of a kind heeds of a strange house, by what comes from it. */
    private static void cuts(Run x, int kind, int[][] comesAndHeed) {
        x.does("house(0, 100); house(0, 100); thief(" + kind + ", 0)");
        for (int[] c : comesAndHeed) {
            x.does("change(1, 0, " + c[0] + "); heed(0, 1) = " + c[1]);
        }
    }

    private void choice() {
        Run draws = e.on(18, "CHOICE of a THIEF (draws count).").does("deal(3); door(1, 5); door(2, 5)")
            .each("thief(#, 0)", 0, 1, 2, 3, 4, 5);
        boolean[] byLot = {true, false, true, false, false, true};
        for (int t = 0; t < 6; t++) {
            draws.does("seed(5); choice(" + t + "); count(9) = " + Due.drawn(5, byLot[t] ? 1 : 0));
        }
        e.on(18, "CHOICE of a THIEF (draws count).").does("deal(2); door(1, 5); thief(0, 0); seed(5); choice(0) = 0; choice(0) = 0; "
            + "count(9) = " + Due.drawn(5, 2));
        String none = "NONE: all DOORS are OPEN to him, or there are none (without a draw in both).";
        e.on(18, none).does("deal(1); seed(5)").each("thief(#, 0)", 0, 1, 2, 3, 4, 5).each("choice(#) ! NONE", 0, 1, 2, 3, 4, 5)
            .does("count(9) = 5");
        e.on(18, none).does("deal(2); seed(5); door(0, 1); door(0, 999)").each("thief(#, 0)", 0, 1, 2, 3, 4, 5)
            .each("choice(#) ! NONE", 0, 1, 2, 3, 4, 5).does("count(9) = 5");
        e.on(18, "BAD;").inTown().each("choice(#) ! BAD", -1, 3, 6, MIN, MAX, Due.NONE);
    }

    private void choiceByLot() {
        String round = "CHOICE: THIEF: the first DOOR that is not OPEN to him, from the rest of a draw by how many DOORS there are on, round.";
        int[][] owners = {{1, 1, 1}, {1, 0, 0}, {0, 1, 0}, {0, 0, 1}, {1, 0, 1}, {0, 1, 1}, {1, 1, 0}};
        for (int[] own : owners) {
            Run x = e.on(18, round).does("deal(2); thief(0, 0)");
            for (int o : own) {
                x.does("door(" + o + ", 1)");
            }
            for (int rest = 0; rest < 3; rest++) {
                int door = rest;
                while (own[door] == 0) {
                    door = (door + 1) % 3;
                }
                x.does("seed(" + Due.seedFor(rest, 3, 1) + "); choice(0) = " + door);
            }
        }
        Run twelve = e.on(18, round).does("deal(2); thief(0, 0); door(1, 1)").times(11, "door(0, 1)");
        twelve.does("seed(" + Due.seedFor(1, 12, 1) + "); choice(0) = 0; seed(" + Due.seedFor(11, 12, 1) + "); choice(0) = 0; "
            + "seed(" + Due.seedFor(0, 12, 1) + "); choice(0) = 0");
        Run last = e.on(18, round).does("deal(2); thief(0, 0)").times(12, "door(1, 1)");
        last.does("seed(" + Due.seedFor(11, 12, 1) + "); choice(0) = 11; seed(" + Due.seedFor(0, 12, 1) + "); choice(0) = 0");
        String above = "(A KIND that is not named does as the one above it.)";
        e.on(18, above).does("deal(2); thief(2, 0); thief(5, 0); door(1, 1); door(1, 999); door(1, 5)")
            .does("seed(" + Due.seedFor(2, 3, 1) + "); choice(0) = 2; seed(" + Due.seedFor(2, 3, 1) + "); choice(1) = 2")
            .does("seed(" + Due.seedFor(0, 3, 1) + "); choice(0) = 0; seed(" + Due.seedFor(0, 3, 1) + "); choice(1) = 0");
        e.on(18, above).does("house(0, 0); house(100, 100); thief(3, 0); door(1, 500); door(1, 400); wire(0, 0, 1); choice(0) = 1; "
            + "agree(0, 1, 1); choice(0) = 0");
    }

    private void choiceOfTheGreatest() {
        e.on(18, "KNOWING: the DOOR with the greatest GAIN.").does("house(0, 0); house(51, 100); thief(1, 0); door(1, 100); door(1, 50); "
            + "wire(0, 0, 1); choice(0) = 1; change(1, 0, 49); choice(0) = 0")
            .does("'gain 0-w'; choice(0) = 0; 'gain 999-w'; choice(0) = 1");
        // The same doors are worth more to thief 1, who is near, than to thief 0.
        e.on(18, "KNOWING: the DOOR with the greatest GAIN.").does("house(0, 0); house(100, 100); thief(1, 0); thief(3, 0); door(1, 100); "
            + "door(1, 50); wire(0, 0, 1); agree(0, 1, 1); choice(0) = 1; choice(1) = 0; choice(0) = 1; turns(0, 3); turns(1, 1); "
            + "choice(0) = 0; choice(1) = 1");
        e.on(18, "QUICK: that with the greatest WORTH").does("house(0, 0); house(100, 100); thief(4, 0); door(1, 998); door(1, 999); "
            + "wire(1, 0, 1); wire(1, 1, 1); choice(0) = 1; 'gain 999-w'; choice(0) = 1; set(1, 1, 997); choice(0) = 0");
        String several = "(of several the least each; of those that are not OPEN).";
        e.on(18, several).does("deal(2); thief(1, 0); thief(4, 0); thief(3, 0); door(0, 999); door(1, 7); door(1, 7); door(0, 999); "
            + "door(1, 7)").each("choice(#) = 1", 0, 1, 2);
        e.on(18, several).does("deal(2); thief(1, 0); thief(4, 0); thief(3, 0); door(0, 999); door(1, 0); door(1, 0)")
            .each("choice(#) = 1", 0, 1, 2);
        e.on(18, several).does("deal(2); thief(1, 0); thief(4, 0); thief(3, 0)").times(11, "door(0, 999)").does("door(1, 0)")
            .each("choice(#) = 11", 0, 1, 2);
        e.on(18, several).does("deal(2); thief(1, 0); thief(4, 0); thief(3, 0); door(1, 6); door(1, 7); door(1, 7); 'gain 9999*w*w'")
            .each("choice(#) = 0", 0, 2).does("choice(1) = 1");
    }

    private void nights() {
        String told = "n (1 .. 60) NIGHTS: TAKEN then.";
        e.on(19, told).does("deal(2); thief(1, 0); door(1, 999); nights(1) = 999; nights(60) = 60939; nights(1) = 61938; "
            + "count(3) = 61938; count(4) = 0; count(9) = " + Due.drawn(1, 66));
        Run most = e.on(19, told).does("deal(2)").times(6, "thief(0, 0)").times(12, "door(1, 999)");
        most.does("nights(60) = 359640; count(9) = " + Due.drawn(1, 724) + "; nights(60) = 719280");
        e.on(19, told).does("nights(60) = 0; deal(1); nights(1) = 0; door(0, 5); nights(1) = 0; count(4) = 0; "
            + "count(9) = " + Due.drawn(1, 2));
        e.on(19, "BAD.").inTown().each("nights(#) ! BAD", 0, -1, 61, MIN, MAX);
    }

    private void aNight() {
        String below = "a draw: he is MISSED, if its rest by 10000 is below MISSED there;";
        e.on(19, below).does("house(0, 0); house(75, 100); thief(1, 0); door(1, 8); wire(0, 0, 1); "
            + "seed(" + Due.seedFor(2499, 10000, 1) + "); nights(1) = 8; count(4) = 0")
            .does("seed(" + Due.seedFor(2500, 10000, 1) + "); nights(1) = 8; count(4) = 1");
        e.on(19, below).does("house(0, 0); house(100, 100); thief(1, 0); door(1, 8); wire(0, 0, 1); "
            + "seed(" + Due.seedFor(0, 10000, 1) + "); nights(1) = 0; count(4) = 1")
            .does("wire(0, 0, NONE); seed(" + Due.seedFor(9999, 10000, 1) + "); nights(1) = 8; count(4) = 1");
        e.on(19, below).does("house(0, 0); house(99, 100); thief(1, 0); door(1, 8); wire(0, 0, 1); wire(0, 1, 1); "
            + "seed(" + Due.seedFor(0, 10000, 1) + "); nights(1) = 8; seed(" + Due.seedFor(1, 10000, 1) + "); nights(1) = 8; count(4) = 1");
        e.on(19, "then TAKEN (0 at first) is WORTH of that DOOR more;")
            .does("deal(2); thief(1, 0); door(1, 0); nights(1) = 0; count(4) = 0; set(0, 1, 999); nights(1) = 999; 'gain 5'; "
            + "nights(1) = 1998; count(3) = 1998");
        e.on(19, "else CAUGHT (0 at first) is 1 more.").does("house(100, 100); deal(1); thief(1, 1); door(0, 999); wire(0, 0, 0); "
            + "nights(1) = 0; count(4) = 1; nights(60) = 0; count(4) = 61");
        String without = "(Without a CHOICE: nothing, without that draw.)";
        e.on(19, without).does("deal(1); door(0, 999)").each("thief(#, 0)", 0, 1, 2, 3, 4, 5)
            .does("nights(60) = 0; count(4) = 0; count(9) = " + Due.drawn(1, 2));
        e.on(19, without).does("deal(2); door(0, 10); thief(0, 0); thief(1, 1); seed(5); nights(1) = 10; count(4) = 0; "
            + "count(9) = " + Due.draw(5));
        // Thief 0 is always heard at the door at which thief 1, who is near, never is.
        e.on(19, below).does("house(0, 0); house(100, 100); thief(1, 0); thief(3, 0); door(1, 8); wire(0, 0, 1); agree(0, 1, 1); "
            + "nights(1) = 8; count(4) = 1; turns(0, 3); turns(1, 1); nights(1) = 16; count(4) = 2");
        byNumbers(e.on(19, "A NIGHT: each THIEF, by numbers: his CHOICE;"));
    }

    /** Two thieves who draw in turn: the first by lot and then his luck, the second his luck alone. */
    private static void byNumbers(Run x) {
        x.does("house(0, 0); house(50, 100); thief(0, 0); thief(1, 0); door(1, 1); door(1, 10); door(1, 100); wire(0, 0, 1); "
            + "wire(1, 0, 1); wire(2, 0, 1)");
        int z = 1;
        int taken = 0;
        int caught = 0;
        for (int night = 0; night < 30; night++) {
            z = Due.draw(z);
            int worth = new int[] {1, 10, 100}[(z >>> 8) % 3];
            for (int t = 0; t < 2; t++) {
                z = Due.draw(z);
                boolean unseen = (z >>> 8) % 10000 < 5000;
                taken += unseen ? t == 0 ? worth : 100 : 0;
                caught += unseen ? 0 : 1;
            }
            x.does("nights(1) = " + taken + "; count(4) = " + caught + "; count(9) = " + z);
        }
    }

    private void draws() {
        String draw = "A draw: z becomes z * 1103515245 + 12345 (an int); it gives z >>> 8.";
        for (int z : new int[] {0, 1, -1, MIN, MAX, 2, 65536, -12345}) {
            int next = (int) ((long) z * 1103515245L + 12345L);
            long gives = (next & 0xFFFFFFFFL) / 256;
            e.on(20, draw).does("deal(2); thief(0, 0)").times(12, "door(1, 1)")
                .does("seed(" + z + "); choice(0) = " + gives % 12 + "; count(9) = " + next);
            e.on(7, draw).does("seed(" + z + "); deal(1); houseTold(0, 0) = " + gives % 101);
        }
        e.on(20, "z is told (1 at first).").does("seed(1) = 1; deal(1); count(9) = " + Due.drawn(1, 2));
    }

    private void seed() {
        e.on(20, "z becomes v: what it was.").does("seed(0) = 1; seed(MIN) = 0; seed(MAX) = MIN; seed(-1) = MAX; seed(BAD) = -1; "
            + "seed(NONE) = BAD; seed(7) = NONE; seed(7) = 7; count(9) = 7");
    }
}
