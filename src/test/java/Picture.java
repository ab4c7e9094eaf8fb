import java.util.ArrayList;
import java.util.List;

/** What can be seen of an object, part by part; looking may change it, so each look wants an object of its own. */
enum Picture {
    TOWN, LUCK, SLOTS, SHEETS, TAPE, WAITING, IMAGE;

    private static final int MIN = Integer.MIN_VALUE, MAX = Integer.MAX_VALUE;

    List<Integer> of(TwoBells x) {
        List<Integer> seen = new ArrayList<>();
        switch (this) {
            case TOWN: town(x, seen); break;
            case LUCK: luck(x, seen); break;
            case SLOTS: slots(x, seen); break;
            case SHEETS: sheets(x, seen); break;
            case TAPE: tape(x, seen); break;
            case WAITING: waiting(x, seen); break;
            default:
                seen.add(x.back());
                town(x, seen);
                break;
        }
        return seen;
    }

    private static void town(TwoBells x, List<Integer> seen) {
        for (int what : new int[] {0, 1, 2, 3, 4, 5, 6, 9}) {
            seen.add(x.count(what));
        }
        for (int h = 0; h < x.count(0); h++) {
            for (int what = 0; what < 6; what++) {
                seen.add(x.houseTold(h, what));
            }
        }
        for (int d = 0; d < x.count(1); d++) {
            for (int what = 0; what < 6; what++) {
                seen.add(x.doorTold(d, what));
            }
        }
        for (int t = 0; t < x.count(2); t++) {
            for (int what = 0; what < 3; what++) {
                seen.add(x.told(t, what));
            }
        }
        for (int t = 0; t < x.count(6); t++) {
            seen.add(x.textTold(t, 0));
            seen.add(x.textTold(t, 1));
        }
        for (int key = 0; key < 3; key++) {
            seen.add(x.why(key));
        }
    }

    private static void luck(TwoBells x, List<Integer> seen) {
        for (int what = 0; what < 3; what++) {
            seen.add(x.worst(what));
        }
        for (int d = 0; d < x.count(1); d++) {
            seen.add(x.pair(d));
        }
        seen.add(x.fewest());
        seen.add(x.alike());
        for (int i = 0; i < 5; i++) {
            seen.add(x.nights(2));
            seen.add(x.count(4));
            seen.add(x.count(9));
        }
        seen.add(x.wiring());
    }

    private static void slots(TwoBells x, List<Integer> seen) {
        for (int slot = 0; slot < 5; slot++) {
            for (int kind = 0; kind < 6; kind++) {
                seen.add(x.ask(slot, kind));
            }
            for (int place = 0; place < 25; place++) {
                seen.add(x.item(slot, place));
            }
            // Together these two tell every number.
            seen.add(x.rest(slot, MIN));
            seen.add(x.rest(slot, MAX));
        }
    }

    private static void sheets(TwoBells x, List<Integer> seen) {
        for (int sheet = 0; sheet < 4; sheet++) {
            seen.add(x.lay(0, 0, 0));
            seen.add(x.lay(0, 2, sheet));
            for (int place = 0; place < 25; place++) {
                seen.add(x.item(0, place));
            }
            seen.add(x.mark(sheet, 0, Due.NONE));
            for (int other = 0; other < sheet; other++) {
                seen.add(x.copy(sheet, 0, other, 0, 0));
            }
        }
    }

    private static void tape(TwoBells x, List<Integer> seen) {
        seen.add(x.count(8));
        seen.add(x.text());
        seen.add(x.textTold(x.count(6) - 1, 1));
    }

    private static void waiting(TwoBells x, List<Integer> seen) {
        seen.add(x.count(7));
        seen.add(x.check(1));
    }
}
