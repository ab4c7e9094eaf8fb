/** Sentences that bound sheets and slots: promises 33 to 41. */
final class SheetEdges {
    private static final int MIN = Integer.MIN_VALUE, MAX = Integer.MAX_VALUE;
    private final Edges e;

    SheetEdges(Edges e) {
        this.e = e;
    }

    void all() {
        sheet();
        mark();
        pour();
        reads();
        copy();
        copyRefused();
        lay();
        held();
        ask();
        item();
        rest();
        findings();
    }

    /** What is due at the first places of a sheet, seen by way of slot 4. */
    private static Run holds(Run x, int sheet, String... due) {
        x.does("lay(4, 2, " + sheet + ")");
        for (int place = 0; place < due.length; place++) {
            x.does("item(4, " + place + ") = " + due[place]);
        }
        return x;
    }

    private static Run marks(Run x, int sheet, String... values) {
        for (int place = 0; place < values.length; place++) {
            x.does("mark(" + sheet + ", " + place + ", " + values[place] + ")");
        }
        return x;
    }

    private void sheet() {
        String told = "A SHEET becomes a row of n places of a sort, all 0 (sort -1: MISSING, n any): n (0).";
        Run anew = marks(e.on(33, told).does("sheet(0, 1, 3) = 3"), 0, "5", "NONE", "7").does("sheet(0, 1, 3) = 3");
        marks(holds(anew, 0, "0", "0", "0", "INDEX"), 0, "5", "NONE", "7").does("sheet(0, 0, 4) = 4");
        holds(anew, 0, "0", "0", "0", "0", "INDEX").does("mark(0, 0, NONE) = KIND; sheet(0, 1, 1) = 1; mark(0, 0, NONE) = 1; "
            + "mark(0, 1, 1) = INDEX");
        e.on(33, told).each("sheet(0, -1, #) = 0", 0, 24, 25, -1, MIN, MAX, Due.NONE)
            .does("pour(0) = NOTHING; sheet(0, 0, 3) = 3; pour(0) = 0; sheet(0, -1, 3) = 0; pour(0) = NOTHING; mark(0, 0, 1) = NOTHING");
        Run apart = marks(e.on(33, told).does("sheet(0, 0, 2); sheet(1, 0, 2)"), 0, "1", "2").does("sheet(1, 1, 3)");
        holds(apart, 0, "1", "2", "INDEX");
        String places = "with 0 to 24 places,";
        e.on(33, places).does("sheet(0, 0, 0) = 0; mark(0, 0, 1) = INDEX; pour(0) = 0; sheet(0, 1, 0) = 0; mark(0, 0, 1) = INDEX; "
            + "sheet(0, 0, 24) = 24; mark(0, 23, 1) = 1; mark(0, 24, 1) = INDEX; sheet(0, 1, 24) = 24; mark(0, 23, 1) = 1; "
            + "mark(0, 24, 1) = INDEX");
        e.on(33, "SHEETS 0 .. 3 are rows of shorts (sort 0) or floats (1; whole numbers),")
            .does("sheet(0, 0, 1) = 1; sheet(3, 1, 1) = 1; mark(0, 0, 70000); mark(3, 0, 70000)")
            .each("sheet(#, 0, 1) ! BAD", -1, 4, MIN, MAX).does("lay(0, 2, 0); item(0, 0) = 4464; lay(0, 2, 3); item(0, 0) = 70000");
        String bad = "BAD: sheet, sort, n above 24; SIZE.";
        e.on(33, bad).inTown().each("sheet(#, 0, 1) ! BAD", -1, 4, MIN, MAX).each("sheet(0, #, 1) ! BAD", -2, 2, MIN, MAX)
            .each("sheet(1, 0, #) ! BAD", 25, 96, MAX).each("sheet(1, 1, #) ! SIZE", -1, -24, MIN, Due.NONE)
            .does("sheet(2, 0, -1) ! SIZE; sheet(2, 0, 25) ! BAD; sheet(4, 0, -1) ! BAD; sheet(0, 2, -1) ! BAD; sheet(4, -1, 0) ! BAD; "
                + "sheet(-1, -1, 5) ! BAD");
    }

    private void mark() {
        Run shorts = e.on(34, "A place of a SHEET becomes v (of shorts its lowest 16 bits;").does("sheet(0, 0, 3)");
        int[][] values = {{0, 0}, {32767, 32767}, {32768, -32768}, {-32768, -32768}, {-32769, 32767}, {65535, -1}, {65536, 0},
            {65537, 1}, {-65536, 0}, {MIN, 0}, {MAX, -1}, {Due.NONE + 65536, 13819}, {Due.BAD, 13823}};
        for (int[] v : values) {
            holds(shorts.does("mark(0, 1, " + v[0] + ") = 1"), 0, "0", String.valueOf(v[1]), "0");
        }
        String told = "of floats v, -99999 .. 99999; NONE: NO NUMBER): 1.";
        Run floats = e.on(34, told).does("sheet(0, 1, 3)");
        for (int v : new int[] {99999, -99999, 0, 1, -1, 32768, 65536, 16777, 99998}) {
            holds(floats.does("mark(0, 1, " + v + ") = 1"), 0, "0", String.valueOf(v), "0");
        }
        holds(floats.each("mark(0, 1, #) ! BAD", 100000, -100000, MIN, MAX, Due.BAD, Due.NONE + 1, Due.NONE - 1), 0, "0", "99998", "0");
        holds(e.on(34, told).does("sheet(0, 1, 3); mark(0, 0, NONE) = 1; mark(0, 2, NONE) = 1; mark(0, 2, NONE) = 1"), 0, "KIND", "0",
            "KIND").does("mark(0, 0, 0) = 1; lay(4, 2, 0); item(4, 0) = 0");
        e.on(34, "A place of floats may be NO NUMBER.").does("sheet(0, 1, 24); mark(0, 23, NONE) = 1; mark(0, 0, NONE) = 1; "
            + "sheet(1, 0, 24); mark(1, 23, NONE) ! KIND");
        String first = "BAD: sheet; NOTHING; INDEX;";
        e.on(34, first).inTown().each("mark(#, 0, 1) ! BAD", -1, 4, MIN, MAX)
            .does("mark(4, 99, NONE) ! BAD; mark(2, 0, 1) ! NOTHING; mark(2, -1, NONE) ! NOTHING; mark(2, 24, MAX) ! NOTHING")
            .each("mark(0, #, 1) ! INDEX", -1, 5, 24, MIN, MAX).each("mark(1, #, 1) ! INDEX", -1, 4, MIN, MAX)
                .does("mark(3, 0, 1) ! INDEX; mark(0, 4, 1) = 1; mark(1, 3, 1) = 1");
        String then = "KIND: NONE in a row of shorts; BAD: v of floats.";
        e.on(34, then).inTown().does("mark(0, 0, NONE) ! KIND; mark(0, 4, NONE) ! KIND; mark(0, 5, NONE) ! INDEX; "
            + "mark(1, 0, 100000) ! BAD; mark(1, 3, -100000) ! BAD; mark(1, 4, 100000) ! INDEX; mark(0, 0, 100000) = 1; "
            + "mark(1, 0, NONE) = 1");
    }

    private void pour() {
        String told = "BELLS of DOORS, by numbers, the one, then the other, come to the HOUSES that a SHEET tells, place by place from 0 on";
        marks(e.on(35, told).does("deal(10); door(0, 1); door(0, 1); sheet(3, 0, 4)"), 3, "9", "0", "3", "4")
            .does("pour(3) = 4; doorTold(0, 3) = 9; doorTold(0, 4) = 0; doorTold(1, 3) = 3; doorTold(1, 4) = 4");
        String none = "(NO NUMBER, or no HOUSE: none),";
        marks(e.on(35, none).does("deal(3); door(0, 1); door(0, 1); door(0, 1); wiring(); sheet(0, 1, 6)"), 0, "NONE", "3", "-1",
            "99999", "-99999", "2")
            .does("pour(0); doorTold(0, 3) = NONE; doorTold(0, 4) = NONE; doorTold(1, 3) = NONE; doorTold(1, 4) = NONE; "
                + "doorTold(2, 3) = NONE; doorTold(2, 4) = 2");
        marks(e.on(35, none).does("deal(10); door(0, 1); wire(0, 0, 5); wire(0, 1, 5); sheet(0, 0, 2)"), 0, "10", "-32768")
            .does("pour(0) = 2; doorTold(0, 3) = NONE; doorTold(0, 4) = NONE; pour(0) = 0");
        String far = "as far as it has places: how many are elsewhere then.";
        e.on(35, far).does("deal(3); sheet(0, 0, 24); pour(0) = 0; door(1, 1); door(1, 1); sheet(0, 0, 3); pour(0) = 3; "
            + "doorTold(1, 3) = 0; doorTold(1, 4) = NONE; pour(0) = 0; sheet(0, 0, 24); pour(0) = 1; pour(0) = 0")
            .does("sheet(0, 0, 0); pour(0) = 0; sheet(0, 1, 1); mark(0, 0, NONE); pour(0) = 1; pour(0) = 0; doorTold(0, 3) = NONE; "
                + "doorTold(0, 4) = 0");
        Run most = e.on(35, far).does("deal(3)").times(12, "door(0, 1)")
            .does("sheet(0, 0, 24); pour(0) = 24; houseTold(0, 2) = 24; mark(0, 23, 2); pour(0) = 1; doorTold(11, 4) = 2");
        most.does("sheet(0, 0, 23); mark(0, 22, 1); pour(0) = 1; doorTold(11, 3) = 1; doorTold(11, 4) = 2");
        Run beyond = e.on(35, far).does("deal(3); door(0, 1); sheet(0, 0, 24)");
        for (int place = 0; place < 24; place++) {
            beyond.does("mark(0, " + place + ", 1)");
        }
        beyond.does("pour(0) = 2; houseTold(1, 2) = 2; door(0, 1); doorTold(1, 3) = NONE; doorTold(1, 4) = NONE; pour(0) = 2; "
            + "houseTold(1, 2) = 4");
        e.on(35, "BAD; NOTHING.").inTown().each("pour(#) ! BAD", -1, 4, MIN, MAX).does("pour(2) ! NOTHING; pour(3) = 0");
    }

    private void reads() {
        String told = "The first place (of numbers alone) at which a SHEET is not LOAD of that HOUSE";
        e.on(36, told).does("deal(3); door(0, 1); wire(0, 0, 2); wire(0, 1, 2); sheet(0, 0, 3); reads(0) = 2; mark(0, 2, 2); "
            + "reads(0) = NONE; mark(0, 0, 1); reads(0) = 0; mark(0, 0, 65536); reads(0) = NONE; mark(0, 1, -1); reads(0) = 1; "
            + "mark(0, 2, 0); reads(0) = 1");
        e.on(36, told).does("deal(3); sheet(0, 1, 3); mark(0, 0, NONE); mark(0, 1, NONE); reads(0) = NONE; mark(0, 2, 1); reads(0) = 2; "
            + "mark(0, 2, NONE); reads(0) = NONE; mark(0, 1, 99999); reads(0) = 1");
        String no = "(of places that are no HOUSE all numbers are not).";
        e.on(36, no).does("sheet(0, 0, 1); reads(0) = 0; deal(1); reads(0) = NONE; sheet(0, 0, 2); reads(0) = 1; deal(9); "
            + "sheet(0, 0, 10); reads(0) = NONE; sheet(0, 0, 11); reads(0) = 10")
            .does("sheet(1, 1, 24); mark(1, 10, NONE); reads(1) = 11; sheet(1, 1, 11); mark(1, 10, NONE); reads(1) = NONE");
        e.on(36, "BAD; NOTHING; NONE: there is none.").inTown().each("reads(#) ! BAD", -1, 4, MIN, MAX)
            .does("reads(2) ! NOTHING; reads(3) ! NONE; sheet(1, 1, 0); reads(1) ! NONE");
    }

    private void copy() {
        String told = "So many places of a SHEET come to another one (or the same), as they were: many.";
        Run x = marks(e.on(37, told).does("sheet(0, 1, 4); sheet(1, 1, 3)"), 0, "10", "NONE", "12", "13");
        holds(x.does("copy(0, 1, 1, 0, 3) = 3"), 1, "KIND", "12", "13");
        holds(x.does("copy(0, 0, 1, 2, 1) = 1"), 1, "KIND", "12", "10");
        holds(x, 0, "10", "KIND", "12", "13");
        Run up = marks(e.on(37, told).does("sheet(0, 0, 5)"), 0, "1", "2", "3", "4", "5").does("copy(0, 0, 0, 1, 4) = 4");
        holds(up, 0, "1", "1", "2", "3", "4");
        Run down = marks(e.on(37, told).does("sheet(0, 0, 5)"), 0, "1", "2", "3", "4", "5").does("copy(0, 1, 0, 0, 4) = 4");
        holds(down, 0, "2", "3", "4", "5", "5");
        holds(down.does("copy(0, 2, 0, 2, 3) = 3; copy(0, 0, 0, 0, 5) = 5; copy(0, 3, 0, 1, 0) = 0"), 0, "2", "3", "4", "5", "5");
        Run all = e.on(37, told).does("sheet(0, 0, 24); sheet(1, 0, 24); mark(0, 23, 8); mark(0, 0, 9); copy(0, 0, 1, 0, 24) = 24; "
            + "lay(4, 2, 1); item(4, 23) = 8; item(4, 0) = 9");
        all.does("copy(0, 23, 1, 22, 1) = 1; lay(4, 2, 1); item(4, 22) = 8");
        String way = "(From a SHEET, its place, to a SHEET, its place.)";
        Run there = marks(e.on(37, way).does("sheet(0, 0, 3); sheet(3, 0, 3)"), 0, "1", "2", "3").does("copy(0, 2, 3, 0, 1) = 1");
        holds(there, 3, "3", "0", "0");
        holds(there, 0, "1", "2", "3");
    }

    private void copyRefused() {
        String order = "BAD; NOTHING; KIND: they are not of one sort;";
        e.on(37, order).inTown().each("copy(#, 0, 0, 0, 1) ! BAD", -1, 4, MIN, MAX).each("copy(0, 0, #, 0, 1) ! BAD", -1, 4, MIN, MAX)
            .does("copy(2, 0, 4, 0, 1) ! BAD; copy(4, 0, 2, 0, -1) ! BAD")
            .does("copy(2, 0, 0, 0, 0) ! NOTHING; copy(0, 0, 2, 0, 0) ! NOTHING; copy(2, 0, 2, 0, 0) ! NOTHING; "
                + "copy(2, -1, 1, 0, -1) ! NOTHING; copy(1, 0, 2, 9, 9) ! NOTHING")
            .does("copy(0, 0, 1, 0, 1) ! KIND; copy(1, 0, 0, 0, 1) ! KIND; copy(0, 0, 1, 0, 0) ! KIND; copy(0, -1, 1, 0, 1) ! KIND; "
                + "copy(1, 0, 3, 0, -1) ! KIND; copy(0, 0, 1, 99, 99) ! KIND");
        String index = "INDEX (many below 0, a place beyond the end, too).";
        e.on(37, index).inTown().does("sheet(2, 1, 3)").each("copy(1, 0, 2, 0, #) ! INDEX", -1, MIN, 4, MAX)
            .each("copy(1, #, 2, 0, 1) ! INDEX", -1, 4, MIN, MAX).each("copy(1, 0, 2, #, 1) ! INDEX", -1, 3, MIN, MAX)
            .does("copy(1, 2, 2, 0, 3) ! INDEX; copy(1, 0, 2, 1, 3) ! INDEX; copy(1, 1, 2, 0, 3) = 3; copy(1, 3, 2, 2, 1) = 1; "
                + "copy(1, 3, 2, 2, 2) ! INDEX");
        e.on(37, index).inTown().does("sheet(2, 1, 3)").each("copy(1, #, 2, 0, 0) ! INDEX", -1, 5, 24, MIN, MAX)
            .each("copy(1, 0, 2, #, 0) ! INDEX", -1, 4, 24, MIN, MAX)
            .does("copy(1, 4, 2, 3, 0) = 0; copy(1, 0, 2, 0, 0) = 0; copy(3, 0, 0, 5, 0) = 0; copy(3, 0, 0, 0, 1) ! INDEX; "
                + "copy(1, MAX, 2, MAX, MAX) ! INDEX; copy(1, 1, 2, 1, MAX) ! INDEX; copy(1, MAX, 2, 0, 2) ! INDEX; "
                + "copy(1, 0, 2, MAX, 2) ! INDEX");
    }

    private void lay() {
        String told = "A SLOT holds: thing 0 nothing, 1 THIEF k, 2 SHEET k, 3 the number k: what it held (0 .. 3).";
        e.on(38, told).does("deal(8); thief(0, 5); thief(1, 7); sheet(3, 0, 1); lay(0, 1, 1) = 0; ask(0, 0) = 17; lay(0, 2, 3) = 1; "
            + "item(0, 0) = 0; lay(0, 3, 77) = 2; rest(0, 100) = 77; lay(0, 0, 0) = 3; ask(0, 0) = NOTHING")
            .does("lay(0, 0, 0) = 0; lay(0, 3, 5) = 0; lay(0, 3, 6) = 3; rest(0, 10) = 6; lay(0, 1, 0) = 3; lay(0, 1, 1) = 1; "
                + "ask(0, 1) = 17; lay(0, 2, 3) = 1; lay(0, 2, 3) = 2; lay(0, 0, 0) = 2");
        e.on(38, told).each("lay(0, 0, #)", MIN, -1, MAX).does("lay(0, 0, 99) = 0");
        e.on(38, "SLOTS 0 .. 4 each hold nothing (at first),").does("lay(0, 3, 1) = 0; lay(4, 3, 2) = 0; lay(1, 0, 0) = 0; "
            + "rest(0, 9) = 1; rest(4, 9) = 2; rest(1, 9) = NOTHING; lay(0, 0, 0) = 3; rest(4, 9) = 2")
            .each("lay(#, 0, 0) ! BAD", -1, 5, MIN, MAX);
        String bad = "BAD: slot, thing, k; NOTHING: that SHEET is MISSING.";
        e.on(38, bad).inTown().each("lay(#, 3, 1) ! BAD", -1, 5, MIN, MAX).each("lay(0, #, 1) ! BAD", -1, 4, MIN, MAX)
            .each("lay(2, 1, #) ! BAD", -1, 3, 6, MIN, MAX).each("lay(1, 2, #) ! BAD", -1, 4, MIN, MAX)
            .does("lay(0, 2, 2) ! NOTHING; lay(1, 2, 2) ! NOTHING; lay(2, 2, 2) ! NOTHING; lay(3, 2, 2) ! NOTHING; lay(5, 2, 2) ! BAD; "
                + "lay(3, 2, 3) = 0");
        e.on(38, bad).does("lay(0, 1, 0) ! BAD; lay(0, 2, 0) ! NOTHING; sheet(0, 1, 0); lay(0, 2, 0) = 0; sheet(0, -1, 0); "
            + "lay(0, 2, 0) ! NOTHING; lay(0, 0, 0) = 2");
        e.on(38, "or a number.").each("lay(0, 3, #)", MIN, MAX, Due.NONE, Due.NOTHING)
            .does("lay(0, 3, MIN); rest(0, MAX) = -1; lay(0, 3, 0); rest(0, 5) = 0; lay(0, 3, NONE); rest(0, MIN) = NONE");
    }

    private void held() {
        String thief = "a THIEF (as he is then, for good),";
        e.on(39, thief).does("deal(5); keep(); thief(3, 4); lay(0, 1, 0); turns(0, 0); ask(0, 3) = 28; ask(0, 0) = 28; told(0, 2) = 4; "
            + "back(); count(2) = 0; ask(0, 3) = 28; thief(5, 0); ask(0, 3) = 28; ask(0, 5) = KIND; keep(); back(); ask(0, 1) = 28");
        String sheet = "a SHEET (a row of its own, as it was then),";
        e.on(40, sheet).does("sheet(0, 1, 2); mark(0, 0, 5); mark(0, 1, NONE); lay(0, 2, 0); lay(1, 2, 0); mark(0, 0, 6); mark(0, 1, 7); "
            + "item(0, 0) = 5; item(0, 1) = KIND; item(0, 2) = INDEX; sheet(0, 0, 24); item(0, 0) = 5; item(0, 2) = INDEX; "
            + "sheet(0, -1, 0); item(0, 0) = 5")
            .does("sheet(0, 0, 1); lay(0, 2, 0); item(0, 0) = 0; item(0, 1) = INDEX; item(1, 0) = 5; sheet(1, 1, 2); copy(1, 0, 1, 0, 2); "
                + "item(1, 0) = 5");
    }

    private void ask() {
        String told = "WORTH (his own) of the THIEF in a SLOT, taken for one of a KIND (0 .. 5).";
        int[] worth = {4, 14, 3, 28, 23, 30};
        Run x = e.on(39, told).does("deal(5)");
        for (int kind = 0; kind < 6; kind++) {
            x.does("thief(" + kind + ", 4); lay(0, 1, " + kind + ")");
            for (int wanted = 0; wanted < 6; wanted++) {
                x.does("ask(0, " + wanted + ") = " + (ThiefEdges.isOf(kind, wanted) ? String.valueOf(worth[kind]) : "KIND"));
            }
        }
        e.on(39, told).does("deal(1); thief(2, 0); lay(4, 1, 0); ask(4, 0) = -1; ask(4, 2) = -1");
        String no = "BAD; NOTHING; KIND: it is no THIEF, or not of that KIND, nor of one under it.";
        e.on(39, no).inTown().each("ask(#, 0) ! BAD", -1, 5, MIN, MAX).each("ask(0, #) ! BAD", -1, 6, MIN, MAX)
            .each("ask(3, #) ! BAD", -1, 6).each("ask(2, #) ! BAD", -1, 6)
            .each("ask(3, #) ! NOTHING", 0, 5).each("ask(1, #) ! KIND", 0, 5).each("ask(2, #) ! KIND", 0, 5)
                .each("ask(0, #) ! KIND", 2, 4, 5).does("ask(0, 0) = 22; ask(0, 1) = 22; ask(0, 3) = 22");
        // A slot that held a thief once holds none of him any more.
        e.on(39, no).inTown().does("lay(0, 3, 5); ask(0, 0) ! KIND; lay(0, 1, 0); lay(0, 2, 0); ask(0, 0) ! KIND; lay(0, 1, 0); "
            + "lay(0, 0, 0); ask(0, 0) ! NOTHING");
    }

    private void item() {
        String told = "A place of the SHEET in a SLOT.";
        e.on(40, told).does("sheet(0, 0, 24); mark(0, 0, -32768); mark(0, 23, 32767); lay(4, 2, 0); item(4, 0) = -32768; "
            + "item(4, 23) = 32767; item(4, 1) = 0; sheet(0, 1, 24); mark(0, 0, 99999); mark(0, 23, -99999); lay(0, 2, 0); "
            + "item(0, 0) = 99999; item(0, 23) = -99999");
        String no = "BAD: slot; NOTHING; KIND: it is no SHEET; INDEX; KIND: NO NUMBER.";
        e.on(40, no).inTown().each("item(#, 0) ! BAD", -1, 5, MIN, MAX).each("item(3, #) ! NOTHING", 0, -1, 24, MAX)
            .each("item(0, #) ! KIND", 0, -1, 24, MAX).each("item(2, #) ! KIND", 0, -1, 24)
            .each("item(4, #) ! INDEX", -1, 5, 24, MIN, MAX).each("item(1, #) ! INDEX", -1, 4, MIN, MAX)
                .does("item(1, 0) ! KIND; item(1, 3) = 70000; item(4, 4) = -2; lay(1, 2, 3); item(1, 0) ! INDEX");
        e.on(40, no).inTown().does("lay(4, 3, 5); item(4, 0) ! KIND; lay(4, 1, 0); item(4, 0) ! KIND; lay(4, 0, 0); item(4, 0) ! NOTHING; "
            + "lay(1, 2, 0); item(1, 0) = 0");
    }

    private void rest() {
        String told = "The rest of the number in a SLOT by n.";
        int[][] rests = {{7, 3, 1}, {-7, 3, -1}, {7, -3, 1}, {-7, -3, -1}, {0, 9, 0}, {5, 5, 0}, {5, 6, 5}, {5, 1, 0}, {MIN, -1, 0},
            {MIN, 1, 0}, {MIN, MAX, -1}, {MIN, MIN, 0}, {MAX, MIN, MAX}, {MAX, MAX, 0}, {-1, MIN, -1}};
        Run x = e.on(41, told);
        for (int[] r : rests) {
            x.does("lay(4, 3, " + r[0] + "); rest(4, " + r[1] + ") = " + r[2]);
        }
        e.on(41, "All numbers are whole; / cuts towards 0.").does("lay(0, 3, -11); rest(0, 4) = -3; rest(0, -4) = -3; lay(0, 3, 11); "
            + "rest(0, -4) = 3");
        String no = "BAD: slot; NOTHING; KIND: it is no number; NO: n is 0.";
        e.on(41, no).inTown().each("rest(#, 0) ! BAD", -1, 5, MIN, MAX).each("rest(3, #) ! NOTHING", 0, 1).each("rest(0, #) ! KIND", 0, 1)
            .each("rest(1, #) ! KIND", 0, 1).each("rest(4, #) ! KIND", 0, 1)
            .does("rest(2, 0) ! NO; rest(2, 1) = 0; rest(2, -1) = 0; rest(2, 100) = -77; lay(2, 0, 0); rest(2, 0) ! NOTHING");
    }

    private void findings() {
        String several = "A call that is refused answers one of BAD, NO, FULL, or a FINDING, of several the one that stands first with it,";
        e.on(37, several).inTown().does("copy(2, -1, 4, -1, -1) ! BAD; copy(2, -1, 1, -1, -1) ! NOTHING; copy(0, -1, 1, -1, -1) ! KIND; "
            + "copy(0, -1, 0, -1, -1) ! INDEX");
        e.on(34, several).inTown().does("mark(4, -1, NONE) ! BAD; mark(2, -1, NONE) ! NOTHING; mark(0, -1, NONE) ! INDEX; "
            + "mark(0, 0, NONE) ! KIND; mark(1, 4, MAX) ! INDEX; mark(1, 0, MAX) ! BAD");
        e.on(41, several).inTown().does("rest(5, 0) ! BAD; rest(3, 0) ! NOTHING; rest(1, 0) ! KIND; rest(2, 0) ! NO");
        e.on(33, several).inTown().does("sheet(4, 0, -1) ! BAD; sheet(0, -2, -1) ! BAD; sheet(0, 0, -1) ! SIZE");
        e.on(38, "FINDINGS: NOTHING: a SHEET is MISSING, a SLOT holds nothing;")
            .does("pour(0) ! NOTHING; reads(1) ! NOTHING; mark(2, 0, 0) ! NOTHING; copy(3, 0, 3, 0, 0) ! NOTHING; lay(0, 2, 3) ! NOTHING; "
            + "ask(0, 0) ! NOTHING; item(4, 0) ! NOTHING; rest(2, 1) ! NOTHING");
        e.on(40, "INDEX: there is no such place;").does("sheet(0, 0, 2); mark(0, 2, 1) ! INDEX; mark(0, -1, 1) ! INDEX; "
            + "copy(0, 2, 0, 0, 1) ! INDEX; lay(0, 2, 0); item(0, 2) ! INDEX; item(0, -1) ! INDEX; item(0, 1) = 0; mark(0, 1, 1) = 1");
        e.on(33, "SIZE: a number of places is below 0;").does("sheet(0, 0, -1) ! SIZE; sheet(3, 1, MIN) ! SIZE; sheet(0, 0, 0) = 0");
        e.on(39, "KIND: it is none (of a KIND, a number, or another thing).").inTown()
            .does("as(0, 5) ! KIND; ask(0, 5) ! KIND; item(1, 0) ! KIND; ask(1, 0) ! KIND; item(2, 0) ! KIND; rest(0, 1) ! KIND; "
            + "mark(0, 0, NONE) ! KIND; copy(0, 0, 1, 0, 1) ! KIND");
    }
}
