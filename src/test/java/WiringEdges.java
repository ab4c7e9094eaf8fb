/** Sentences that bound wirings, the worst, and who hears what: promises 21 to 27. */
final class WiringEdges {
    private static final int MIN = Integer.MIN_VALUE, MAX = Integer.MAX_VALUE;
    private final Edges e;

    WiringEdges(Edges e) {
        this.e = e;
    }

    void all() {
        pair();
        pairOfLeastLoads();
        wiring();
        unlawful();
        worst();
        heard();
        fewest();
        alike();
    }

    private void pair() {
        String told = "PAIR of a DOOR: 100 times p, and q.";
        e.on(21, told).does("deal(3); door(2, 1); pair(0) = 1; door(0, 1); pair(1) = 102; door(1, 1); pair(2) = 2");
        e.on(21, told).does("deal(10); door(0, 1); 'may p=8&q=9'; pair(0) = 809; 'may p=1&q=9'; pair(0) = 109");
        e.on(21, "BAD; NONE.").inTown().each("pair(#) ! BAD", -1, 3, 12, MIN, MAX, Due.NONE);
        e.on(21, "BAD; NONE.").does("deal(1); pair(0) ! BAD; door(0, 1); pair(0) ! NONE; deal(1); pair(0) ! NONE; deal(1); pair(0) = 102; "
            + "agree(2, 1, 1); pair(0) ! NONE; pair(1) ! BAD")
            .does("agree(1, 2, 0); 'may 0'; pair(0) ! NONE; 'may 0-1'; pair(0) = 102");
        String lawful = "PAIR of a DOOR: of all pairs of HOUSES p < q with which it would be LAWFUL";
        e.on(21, lawful).does("deal(5); door(0, 1); pair(0) = 102; agree(1, 2, 1); pair(0) = 103; agree(1, 3, 1); pair(0) = 104; "
            + "agree(1, 4, 1); pair(0) = 203; 'may p=3'; pair(0) = 304")
            .does("'may p>q'; pair(0) = NONE; 'may p<q'; pair(0) = 203; 'may q=o|p=o'; pair(0) = NONE");
    }

    private void pairOfLeastLoads() {
        String least = "that with which LOADS of both (without this DOOR's BELLS) are least, together;";
        e.on(21, least).does("deal(4); door(0, 1); wire(0, 0, 1); wire(0, 1, 1); pair(0) = 102; wire(0, 0, 2); pair(0) = 102; door(3, 1); "
            + "wire(1, 0, 1); pair(0) = 203; pair(1) = 1")
            .does("wire(1, 1, 1); pair(0) = 203; wire(1, 0, NONE); wire(1, 1, NONE); pair(0) = 102");
        // Only 1 with 2, and 3 with 4, may be paired: the sums of loads tell, not the greater or the lesser load.
        Run sums = e.on(21, least).does("deal(5); agree(1, 3, 1); agree(1, 4, 1); agree(2, 3, 1); agree(2, 4, 1)").times(5, "door(0, 1)");
        sums.does("wire(1, 0, 1); wire(1, 1, 1); wire(2, 0, 2); wire(2, 1, 2); wire(3, 0, 3); wire(3, 1, 3); wire(4, 0, 3); pair(0) = 304")
            .does("wire(4, 1, 3); pair(0) = 102; wire(1, 0, NONE); pair(0) = 102; wire(1, 0, 4); pair(0) = 102; wire(4, 0, 0); "
                + "wire(4, 1, 0); wire(3, 0, 0); pair(0) = 304");
        String several = "of several the least p, then q.";
        e.on(21, several).does("deal(10); door(9, 1); pair(0) = 1; door(0, 1); pair(1) = 102; door(1, 1); wire(2, 0, 0); pair(0) = 102; "
            + "wire(2, 1, 1); pair(0) = 203; wire(1, 0, 2); pair(0) = 304");
        // The sums of 1 with 4 and of 2 with 3 are the same, then those of 1 with 3 and of 1 with 4.
        e.on(21, several).does("deal(5); door(0, 1); door(0, 1); wire(1, 0, 1); agree(1, 2, 1); agree(1, 3, 1); agree(2, 4, 1); "
            + "agree(3, 4, 1); pair(0) = 203; wire(1, 1, 2); pair(0) = 104; agree(1, 3, 0); pair(0) = 103");
    }

    private void wiring() {
        e.on(22, "WIRING: how many DOORS are LAWFUL then.").does("wiring() = 0; deal(2); wiring() = 0; door(0, 1); wiring() = 0; deal(1); "
            + "wiring() = 1; door(1, 1); wiring() = 2; 'may o'; wiring() = 1; unlawful(0) = 1");
        Run most = e.on(22, "WIRING: how many DOORS are LAWFUL then.").does("deal(10)").times(12, "door(9, 1)")
            .does("wiring() = 12; unlawful(0) = 0");
        most.does("doorTold(0, 3) = 0; doorTold(0, 4) = 1; doorTold(11, 3) = 4; doorTold(11, 4) = 5; houseTold(8, 2) = 2; "
            + "houseTold(0, 2) = 3; houseTold(9, 2) = 0");
        String none = "WIRING: DOOR by DOOR, from 0 on: its BELLS come to its PAIR (both to none, if there is none).";
        e.on(22, none).does("deal(2); door(0, 1); wire(0, 0, 1); wire(0, 1, 0); wiring() = 0; doorTold(0, 3) = NONE; "
            + "doorTold(0, 4) = NONE");
        e.on(22, none).does("deal(3); door(0, 1); wire(0, 0, 2); wire(0, 1, 1); doorTold(0, 5) = 1; 'may 0'; wiring() = 0; "
            + "doorTold(0, 3) = NONE; doorTold(0, 4) = NONE; 'may 1'; wiring() = 1; doorTold(0, 3) = 1; doorTold(0, 4) = 2");
        // Door 0 still meets what door 1 had; door 1 meets what door 0 has now, and not what it had itself.
        e.on(22, none).does("deal(5); door(0, 1); door(0, 1); wire(1, 0, 1); wire(1, 1, 1); wiring() = 2; doorTold(0, 3) = 2; "
            + "doorTold(0, 4) = 3; doorTold(1, 3) = 1; doorTold(1, 4) = 4; wiring() = 2")
            .does("doorTold(0, 3) = 2; doorTold(0, 4) = 3; doorTold(1, 3) = 1; doorTold(1, 4) = 4");
    }

    private void unlawful() {
        String told = "How many DOORS are not LAWFUL (what 0), the first of them (1; NONE).";
        e.on(23, told).does("unlawful(0) = 0; unlawful(1) = NONE; deal(4); door(0, 1); unlawful(0) = 1; unlawful(1) = 0; wiring(); "
            + "unlawful(0) = 0; unlawful(1) = NONE");
        Run x = e.on(23, told).does("deal(4)").times(12, "door(0, 1)").does("unlawful(0) = 12; unlawful(1) = 0; wiring(); "
            + "wire(11, 1, NONE); unlawful(0) = 1; unlawful(1) = 11");
        x.does("wire(5, 0, 0); unlawful(0) = 2; unlawful(1) = 5; 'may 0'; unlawful(0) = 12; unlawful(1) = 0");
        e.on(23, "BAD.").inTown().each("unlawful(#) ! BAD", -1, 2, MIN, MAX);
    }

    private void worst() {
        e.on(24, "WORST: what 0 the THIEF, 1 the DOOR, 2 the GAIN.").does("house(30, 100); house(0, 100); door(1, 500); door(0, 999); "
            + "wire(1, 0, 0); thief(0, 0); thief(2, 1); worst(0) = 1; worst(1) = 1; worst(2) = 849");
        Run last = e.on(24, "WORST: what 0 the THIEF, 1 the DOOR, 2 the GAIN.").does("deal(3)").times(5, "thief(0, 0)")
            .does("thief(0, 1)").times(11, "door(0, 5)").does("door(2, 6)");
        last.does("worst(0) = 0; worst(1) = 11; worst(2) = 6; set(10, 1, 7); worst(0) = 5; worst(1) = 10; worst(2) = 7; set(11, 1, 999); "
            + "worst(0) = 0; worst(1) = 11; worst(2) = 999");
        String first = "WORST: of all THIEVES and DOORS that are not OPEN to them the two with the greatest GAIN; "
            + "of several the first (by THIEVES, then DOORS).";
        e.on(24, first).does("deal(3); thief(0, 0); thief(0, 1); door(0, 9); door(0, 9); door(1, 9); door(1, 9); worst(0) = 0; "
            + "worst(1) = 2; set(0, 1, 10); worst(0) = 1; worst(1) = 0; set(1, 1, 10); worst(1) = 0");
        e.on(24, first).does("deal(3); thief(1, 2); thief(1, 2); door(0, 0); door(0, 0); worst(0) = 0; worst(1) = 0; worst(2) = 0; "
            + "'gain w-1'; worst(0) = 0; worst(1) = 0; worst(2) = 0");
        e.on(24, first).does("house(100, 100); deal(1); thief(0, 1); thief(2, 1); door(0, 500); door(0, 250); wire(0, 0, 0); "
            + "worst(0) = 0; worst(1) = 1; worst(2) = 250; set(1, 1, 249); worst(0) = 1; worst(1) = 0; worst(2) = 250");
        String none = "BAD; NONE: there is none (all are OPEN).";
        e.on(24, none).each("worst(#) ! NONE", 0, 1, 2).does("worst(-1) ! BAD; worst(3) ! BAD");
        e.on(24, none).does("deal(2); thief(0, 0)").each("worst(#) ! NONE", 0, 1, 2);
        e.on(24, none).does("deal(2); door(0, 1)").each("worst(#) ! NONE", 0, 1, 2);
        e.on(24, none).does("deal(2); door(0, 999); door(0, 1); thief(1, 0); thief(0, 0)").each("worst(#) ! NONE", 0, 1, 2)
            .does("door(1, 0); worst(0) = 0; worst(1) = 2; worst(2) = 0");
        e.on(24, none).inTown().each("worst(#) ! BAD", -1, 3, MIN, MAX);
    }

    private void heard() {
        e.on(25, "HEARD BY a set (bits of HOUSES there are): DOORS, as bits.")
            .does("heard(0) = 0; heard(1) ! BAD; deal(1); heard(1) = 0; heard(2) ! BAD; deal(9); heard(1023) = 0; heard(1024) ! BAD; "
            + "heard(512) = 0");
        Run all = e.on(25, "HEARD BY a set (bits of HOUSES there are): DOORS, as bits.").does("deal(10)").times(12, "door(0, 1)");
        for (int d = 0; d < 12; d++) {
            all.does("wire(" + d + ", " + d % 2 + ", 9)");
        }
        all.does("heard(512) = 4095; heard(511) = 0; heard(1023) = 4095; wire(11, 1, NONE); heard(512) = 2047; wire(0, 0, 0); "
            + "heard(512) = 2046; heard(1) = 1; heard(513) = 2047");
        e.on(25, "HEARD BY a set of HOUSES are the DOORS with a BELL in one of them.")
            .does("deal(4); door(0, 1); door(0, 1); wire(0, 0, 1); wire(0, 1, 2); wire(1, 1, 2); heard(0) = 0; heard(1) = 0; "
                + "heard(2) = 1; heard(4) = 3; heard(6) = 3; heard(8) = 0; heard(15) = 3; wire(1, 0, 2); heard(4) = 3");
        e.on(25, "BAD.").inTown().each("heard(#) ! BAD", -1, 16, 31, 1023, 1024, MIN, MAX, Due.NONE).does("heard(15) = 7");
    }

    private void fewest() {
        e.on(26, "FEWEST, as bits.").does("fewest() = 0; deal(10); fewest() = 0; door(0, 1); wire(0, 0, 9); fewest() = 512; "
            + "wire(0, 1, 0); fewest() = 1");
        Run ten = e.on(26, "FEWEST, as bits.").does("deal(10)").times(10, "door(0, 1)");
        for (int d = 0; d < 10; d++) {
            ten.does("wire(" + d + ", 0, " + d + "); fewest() = " + ((2 << d) - 1));
        }
        String set = "FEWEST: the set with the fewest HOUSES by which all DOORS that have a BELL are HEARD;";
        e.on(26, set).does("deal(4); door(0, 1); door(0, 1); fewest() = 0; wire(0, 1, 3); fewest() = 8; wire(1, 0, 3); wire(1, 1, 0); "
            + "fewest() = 8; wire(1, 0, 1); fewest() = 9; wire(0, 1, NONE); fewest() = 1");
        e.on(26, set).does("deal(4); door(0, 1); door(0, 1); door(0, 1); wire(0, 0, 0); wire(0, 1, 3); wire(1, 0, 1); wire(1, 1, 3); "
            + "wire(2, 0, 2); wire(2, 1, 3); fewest() = 8");
        String least = "of several the least as bits.";
        e.on(26, least).does("deal(6); door(0, 1); wire(0, 0, 5); wire(0, 1, 2); fewest() = 4; door(0, 1); wire(1, 0, 3); wire(1, 1, 4); "
            + "fewest() = 12; wire(1, 0, 5); fewest() = 32; wire(1, 0, 1); fewest() = 6");
        // 1 with 2, and 0 with 3, hear all three: 6 as bits is less than 9, though 9 has the lower house.
        e.on(26, least).does("deal(4); door(0, 1); door(0, 1); wire(0, 0, 2); wire(0, 1, 3); wire(1, 0, 0); wire(1, 1, 1); fewest() = 5; "
            + "door(0, 1); wire(2, 0, 1); wire(2, 1, 3); fewest() = 6");
    }

    private void alike() {
        String told = "ALIKE: how many pairs of DOORS have BELLS in the same HOUSES (as sets; both none, too).";
        e.on(27, told).does("alike() = 0; deal(3); door(0, 1); alike() = 0; door(1, 2); alike() = 1; wire(0, 0, 0); alike() = 0; "
            + "wire(1, 1, 0); alike() = 1; wire(1, 0, 0); alike() = 1")
            .does("wire(0, 1, 1); alike() = 0; wire(1, 0, 1); alike() = 1; wire(1, 1, 2); alike() = 0; wire(1, 1, NONE); alike() = 0");
        Run most = e.on(27, "ALIKE.").does("deal(10)").times(12, "door(0, 1)").does("alike() = 66");
        for (int d = 0; d < 12; d++) {
            most.does("wire(" + d + ", " + d % 2 + ", 9); wire(" + d + ", " + (1 - d % 2) + ", 8)");
        }
        most.does("alike() = 66; wire(11, 0, 0); alike() = 55; wire(10, 0, 8); wire(10, 1, 8); alike() = 45");
    }
}
