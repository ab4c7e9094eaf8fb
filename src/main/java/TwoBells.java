import java.util.Arrays;

/**
 * Each opening of a door rings in two houses. One object holds the houses, their doors, the thieves, the laws
 * in texts, and beside them sheets, slots, numbers that wait, a tape and one image of all the rest.
 */
public final class TwoBells {
    public static final int BAD = -1000000001, NO = -1000000002, FULL = -1000000003, NONE = -1000000005, NOTHING = -1000000011, KIND = -1000000012, INDEX = -1000000013, SIZE = -1000000014;

    private static final int MOST_HOUSES = 10, MOST_DOORS = 12, MOST_THIEVES = 6, MOST_TEXTS = 14;
    private static final int MOST_WAITING = 60, MOST_BYTES = 96, MOST_PLACES = 24, MOST_OPEN = 8;
    private static final int SHEETS = 4, SLOTS = 5;

    private static final int THIEF = 0, KNOWING = 1, CUTTER = 2, NEAR = 3, QUICK = 4, FEASTING = 5;
    private static final int COME = 0, GAIN = 1, MAY = 2;
    private static final int MISSING = -1, SHORTS = 0, FLOATS = 1;
    private static final int HOLDS_NOTHING = 0, HOLDS_THIEF = 1, HOLDS_SHEET = 2, HOLDS_NUMBER = 3;

    // In a text's code a number stands as itself, name i as -1 - i, a sign as SIGNS less its byte.
    private static final int SIGNS = -1000;

    private final Town now = new Town();
    private final Town image = new Town();
    private boolean kept = false;
    private final Tape tape = new Tape();
    private final int[] waits = new int[MOST_WAITING];
    private int waiting = 0;
    private final Sheet[] sheets = new Sheet[SHEETS];
    private final Slot[] slots = new Slot[SLOTS];
    private final int[] rung = new int[MOST_DOORS];

    public TwoBells() {
        for (int i = 0; i < SHEETS; i++) {
            sheets[i] = new Sheet();
        }
        for (int i = 0; i < SLOTS; i++) {
            slots[i] = new Slot();
        }
    }

    // ---- houses, doors

    public int house(int awake, int cares) {
        if (!within(awake, 0, 100) || !within(cares, 0, 100)) {
            return BAD;
        }
        return now.addHouse(awake, cares);
    }

    public int houseTold(int house, int what) {
        if (!now.isHouse(house)) {
            return BAD;
        }
        switch (what) {
            case 0: return now.awake[house];
            case 1: return now.cares[house];
            case 2: return now.load(house, NONE);
            case 3: return now.hears(house);
            case 4: return now.comesNow(house);
            case 5: return now.agrees[house];
            default: return BAD;
        }
    }

    public int change(int house, int what, int v) {
        if (!now.isHouse(house) || !within(what, 0, 1) || !within(v, 0, 100)) {
            return BAD;
        }
        int[] row = what == 0 ? now.awake : now.cares;
        int was = row[house];
        row[house] = v;
        return was;
    }

    public int agree(int one, int other, int v) {
        if (!now.isHouse(one) || !now.isHouse(other) || one == other || !within(v, 0, 1)) {
            return BAD;
        }
        int was = now.doAgree(one, other) ? 1 : 0;
        if (was != v) {
            now.agrees[one] ^= 1 << other;
            now.agrees[other] ^= 1 << one;
        }
        return was;
    }

    public int patience(int v) {
        if (!within(v, 0, 24)) {
            return BAD;
        }
        int was = now.patience;
        now.patience = v;
        return was;
    }

    public int deal(int n) {
        if (!within(n, 1, MOST_HOUSES)) {
            return BAD;
        }
        int came = 0;
        while (came < n && now.houses < MOST_HOUSES) {
            int awake = now.draw() % 101;
            int cares = now.draw() % 101;
            now.addHouse(awake, cares);
            came++;
        }
        return came;
    }

    public int door(int house, int worth) {
        if (!now.isHouse(house) || !within(worth, 0, 999)) {
            return BAD;
        }
        return now.addDoor(house, worth);
    }

    public int doorTold(int door, int what) {
        if (!now.isDoor(door)) {
            return BAD;
        }
        switch (what) {
            case 0: return now.owner[door];
            case 1: return now.worth[door];
            case 2: return now.noise[door];
            case 3: return now.bells[2 * door];
            case 4: return now.bells[2 * door + 1];
            case 5: return now.isLawful(door) ? 1 : 0;
            default: return BAD;
        }
    }

    public int set(int door, int what, int v) {
        if (!now.isDoor(door) || !within(what, 1, 2) || !within(v, 0, what == 1 ? 999 : 9)) {
            return BAD;
        }
        int[] row = what == 1 ? now.worth : now.noise;
        int was = row[door];
        row[door] = v;
        return was;
    }

    public int wire(int door, int bell, int house) {
        if (!now.isDoor(door) || !within(bell, 0, 1) || house != NONE && !now.isHouse(house)) {
            return BAD;
        }
        int was = now.bells[2 * door + bell];
        now.bells[2 * door + bell] = house;
        return was;
    }

    // ---- thieves

    public int thief(int kind, int house) {
        if (!isKind(kind) || !now.isHouse(house)) {
            return BAD;
        }
        if (now.thieves >= MOST_THIEVES) {
            return FULL;
        }
        now.band[now.thieves] = Thief.ofKind(kind, house);
        now.thieves++;
        return now.thieves - 1;
    }

    public int told(int thief, int what) {
        Thief one = now.thiefAt(thief);
        if (one == null) {
            return BAD;
        }
        switch (what) {
            case 0: return one.kind;
            case 1: return one.home;
            case 2: return one.value();
            default: return BAD;
        }
    }

    public int as(int thief, int kind) {
        Thief one = now.thiefAt(thief);
        if (one == null || !isKind(kind)) {
            return BAD;
        }
        return one.isOf(kind) ? one.home : KIND;
    }

    public int turns(int thief, int kind) {
        Thief one = now.thiefAt(thief);
        if (one == null || !isKind(kind)) {
            return BAD;
        }
        now.band[thief] = Thief.ofKind(kind, one.home);
        return one.kind;
    }

    public int at(int thief, int door, int what) {
        Thief one = now.thiefAt(thief);
        if (one == null || !now.isDoor(door) || !within(what, 0, 2)) {
            return BAD;
        }
        if (what == 2) {
            return now.owner[door] == one.home ? 1 : 0;
        }
        now.listen();
        int missed = now.missedBy(one, door);
        return what == 0 ? missed : now.gainOf(door, missed);
    }

    public int heed(int thief, int house) {
        Thief one = now.thiefAt(thief);
        if (one == null || !now.isHouse(house)) {
            return BAD;
        }
        return one.heeds(now, house, now.comesNow(house));
    }

    public int choice(int thief) {
        Thief one = now.thiefAt(thief);
        if (one == null) {
            return BAD;
        }
        now.weigh();
        return one.picks(now, thief);
    }

    public int nights(int n) {
        if (!within(n, 1, 60)) {
            return BAD;
        }
        now.weigh();
        for (int i = 0; i < n; i++) {
            now.night();
        }
        return now.taken;
    }

    public int seed(int v) {
        int was = now.z;
        now.z = v;
        return was;
    }

    // ---- wirings

    public int pair(int door) {
        return now.isDoor(door) ? now.bestPair(door) : BAD;
    }

    public int wiring() {
        for (int d = 0; d < now.doors; d++) {
            int best = now.bestPair(d);
            now.bells[2 * d] = best == NONE ? NONE : best / 100;
            now.bells[2 * d + 1] = best == NONE ? NONE : best % 100;
        }
        return now.doors - now.howManyUnlawful();
    }

    public int unlawful(int what) {
        switch (what) {
            case 0: return now.howManyUnlawful();
            case 1: return now.firstUnlawful();
            default: return BAD;
        }
    }

    public int worst(int what) {
        if (!within(what, 0, 2)) {
            return BAD;
        }
        now.weigh();
        int best = NONE;
        for (int t = 0; t < now.thieves; t++) {
            Thief one = now.thiefAt(t);
            int door = one == null ? NONE : now.greatest(one.home, now.gains, t * MOST_DOORS);
            if (door != NONE && (best == NONE || now.gains[t * MOST_DOORS + door] > now.gains[best])) {
                best = t * MOST_DOORS + door;
            }
        }
        if (best == NONE) {
            return NONE;
        }
        switch (what) {
            case 0: return best / MOST_DOORS;
            case 1: return best % MOST_DOORS;
            default: return now.gains[best];
        }
    }

    public int heard(int set) {
        if (!within(set, 0, (1 << now.houses) - 1)) {
            return BAD;
        }
        int doors = 0;
        for (int d = 0; d < now.doors; d++) {
            if ((now.rings(d) & set) != 0) {
                doors |= 1 << d;
            }
        }
        return doors;
    }

    public int fewest() {
        for (int d = 0; d < now.doors; d++) {
            rung[d] = now.rings(d);
        }
        // All houses together hear every door that has a bell, so this is a set that will do.
        int best = (1 << now.houses) - 1;
        for (int set = best; set >= 0; set--) {
            if (Integer.bitCount(set) <= Integer.bitCount(best) && hearsAllRung(set)) {
                best = set;
            }
        }
        return best;
    }

    public int alike() {
        int pairs = 0;
        for (int d = 0; d < now.doors; d++) {
            for (int e = d + 1; e < now.doors; e++) {
                if (now.rings(d) == now.rings(e)) {
                    pairs++;
                }
            }
        }
        return pairs;
    }

    // ---- texts

    public int feed(int a, int b, int c) {
        if (tape.size > MOST_BYTES - 12) {
            return FULL;
        }
        tape.addFour(a);
        tape.addFour(b);
        tape.addFour(c);
        return tape.size;
    }

    public int trim(int n) {
        if (!within(n, 0, tape.size)) {
            return BAD;
        }
        tape.size = n;
        return n;
    }

    public int text() {
        int fault = tape.fault();
        tape.size = 0;
        if (fault != NONE) {
            return -100 - fault;
        }
        if (now.texts >= MOST_TEXTS) {
            return FULL;
        }
        now.laws[now.texts] = tape.asText();
        now.texts++;
        return now.texts - 1;
    }

    public int textTold(int text, int what) {
        Text one = now.textAt(text);
        if (one == null) {
            return BAD;
        }
        switch (what) {
            case 0: return one.key;
            case 1: return one.terms;
            default: return BAD;
        }
    }

    public int why(int key) {
        return within(key, COME, MAY) ? now.lastOf(key) : BAD;
    }

    // ---- sheets, slots

    public int sheet(int sheet, int sort, int n) {
        Sheet one = sheetAt(sheet);
        if (one == null || !within(sort, MISSING, FLOATS)) {
            return BAD;
        }
        if (sort == MISSING) {
            one.sort = MISSING;
            one.size = 0;
            return 0;
        }
        if (n > MOST_PLACES) {
            return BAD;
        }
        if (n < 0) {
            return SIZE;
        }
        one.sort = sort;
        one.size = n;
        Arrays.fill(one.places, 0);
        return n;
    }

    public int mark(int sheet, int place, int v) {
        Sheet one = sheetAt(sheet);
        if (one == null) {
            return BAD;
        }
        if (one.sort == MISSING) {
            return NOTHING;
        }
        if (!one.hasPlace(place)) {
            return INDEX;
        }
        if (one.sort == SHORTS) {
            if (v == NONE) {
                return KIND;
            }
            one.places[place] = (short) v;
            return 1;
        }
        if (v != NONE && !within(v, -99999, 99999)) {
            return BAD;
        }
        one.places[place] = v;
        return 1;
    }

    public int pour(int sheet) {
        Sheet one = sheetAt(sheet);
        if (one == null) {
            return BAD;
        }
        if (one.sort == MISSING) {
            return NOTHING;
        }
        int elsewhere = 0;
        for (int i = 0; i < one.size && i < 2 * now.doors; i++) {
            int house = now.isHouse(one.places[i]) ? one.places[i] : NONE;
            if (now.bells[i] != house) {
                now.bells[i] = house;
                elsewhere++;
            }
        }
        return elsewhere;
    }

    public int reads(int sheet) {
        Sheet one = sheetAt(sheet);
        if (one == null) {
            return BAD;
        }
        if (one.sort == MISSING) {
            return NOTHING;
        }
        for (int i = 0; i < one.size; i++) {
            int v = one.places[i];
            if (v != NONE && (!now.isHouse(i) || v != now.load(i, NONE))) {
                return i;
            }
        }
        return NONE;
    }

    public int copy(int from, int place, int to, int at, int many) {
        Sheet source = sheetAt(from);
        Sheet goal = sheetAt(to);
        if (source == null || goal == null) {
            return BAD;
        }
        if (source.sort == MISSING || goal.sort == MISSING) {
            return NOTHING;
        }
        if (source.sort != goal.sort) {
            return KIND;
        }
        if (!source.hasPlaces(place, many) || !goal.hasPlaces(at, many)) {
            return INDEX;
        }
        System.arraycopy(source.places, place, goal.places, at, many);
        return many;
    }

    public int lay(int slot, int thing, int k) {
        Slot one = slotAt(slot);
        if (one == null || !within(thing, HOLDS_NOTHING, HOLDS_NUMBER)) {
            return BAD;
        }
        Thief thief = thing == HOLDS_THIEF ? now.thiefAt(k) : null;
        Sheet row = thing == HOLDS_SHEET ? sheetAt(k) : null;
        if (thing == HOLDS_THIEF && thief == null || thing == HOLDS_SHEET && row == null) {
            return BAD;
        }
        if (row != null && row.sort == MISSING) {
            return NOTHING;
        }
        int held = one.holds;
        one.holds = thing;
        one.thief = thief;
        one.number = k;
        if (row != null) {
            one.row.become(row);
        }
        return held;
    }

    public int ask(int slot, int kind) {
        Slot one = slotAt(slot);
        if (one == null || !isKind(kind)) {
            return BAD;
        }
        if (one.holds == HOLDS_NOTHING) {
            return NOTHING;
        }
        Thief held = one.thief;
        return held != null && held.isOf(kind) ? held.value() : KIND;
    }

    public int item(int slot, int place) {
        Slot one = slotAt(slot);
        if (one == null) {
            return BAD;
        }
        if (one.holds == HOLDS_NOTHING) {
            return NOTHING;
        }
        if (one.holds != HOLDS_SHEET) {
            return KIND;
        }
        if (!one.row.hasPlace(place)) {
            return INDEX;
        }
        int v = one.row.places[place];
        return v == NONE ? KIND : v;
    }

    public int rest(int slot, int n) {
        Slot one = slotAt(slot);
        if (one == null) {
            return BAD;
        }
        if (one.holds == HOLDS_NOTHING) {
            return NOTHING;
        }
        if (one.holds != HOLDS_NUMBER) {
            return KIND;
        }
        return n == 0 ? NO : one.number % n;
    }

    // ---- rows, images

    public int tell(int v) {
        if (waiting >= MOST_WAITING) {
            return FULL;
        }
        waits[waiting] = v;
        waiting++;
        return waiting;
    }

    public int check(int n) {
        int told = waiting;
        waiting = 0;
        if (!within(n, 1, 30)) {
            return BAD;
        }
        if (!kept) {
            return NO;
        }
        int right = howManyRight(n, told);
        return right == 2 * n && told == 2 * n ? 0 : 1 + right;
    }

    public int keep() {
        image.become(now);
        kept = true;
        return now.doors;
    }

    public int back() {
        if (!kept) {
            return NO;
        }
        now.become(image);
        return now.doors;
    }

    public int count(int what) {
        switch (what) {
            case 0: return now.houses;
            case 1: return now.doors;
            case 2: return now.thieves;
            case 3: return now.taken;
            case 4: return now.caught;
            case 5: return now.patience;
            case 6: return now.texts;
            case 7: return waiting;
            case 8: return tape.size;
            case 9: return now.z;
            default: return BAD;
        }
    }

    // ---- what the calls share

    private static boolean within(int v, int least, int most) {
        return v >= least && v <= most;
    }

    private static int held(int v, int least, int most) {
        return Math.max(least, Math.min(most, v));
    }

    private static boolean isKind(int kind) {
        return within(kind, THIEF, FEASTING);
    }

    private Sheet sheetAt(int sheet) {
        return within(sheet, 0, SHEETS - 1) ? sheets[sheet] : null;
    }

    private Slot slotAt(int slot) {
        return within(slot, 0, SLOTS - 1) ? slots[slot] : null;
    }

    private boolean hearsAllRung(int set) {
        for (int d = 0; d < now.doors; d++) {
            if (rung[d] != 0 && (rung[d] & set) == 0) {
                return false;
            }
        }
        return true;
    }

    /** How many of the numbers told stand right ahead of the first that is not, of n nights by the image. */
    private int howManyRight(int n, int told) {
        // Nights change these three alone, so the image is whole again once they are put back.
        int z = image.z;
        int taken = image.taken;
        int caught = image.caught;
        int right = 0;
        image.weigh();
        for (int i = 0; i < n && right == 2 * i; i++) {
            image.night();
            right += waitsAt(right, told, image.taken) ? 1 : 0;
            right += right > 2 * i && waitsAt(right, told, image.caught) ? 1 : 0;
        }
        image.z = z;
        image.taken = taken;
        image.caught = caught;
        return right;
    }

    private boolean waitsAt(int place, int told, int v) {
        return place < told && place < MOST_WAITING && waits[place] == v;
    }

    /** All that an image keeps, with rows in which a call works things out. */
    private static final class Town {
        int houses = 0, doors = 0, thieves = 0, texts = 0;
        int patience = 3, taken = 0, caught = 0, z = 1;
        final int[] awake = new int[MOST_HOUSES], cares = new int[MOST_HOUSES], agrees = new int[MOST_HOUSES];
        final int[] owner = new int[MOST_DOORS], worth = new int[MOST_DOORS], noise = new int[MOST_DOORS];
        final int[] bells = new int[2 * MOST_DOORS];
        final Thief[] band = new Thief[MOST_THIEVES];
        final Text[] laws = new Text[MOST_TEXTS];
        final int[] comes = new int[MOST_HOUSES];
        final int[] missed = new int[MOST_THIEVES * MOST_DOORS], gains = new int[MOST_THIEVES * MOST_DOORS];

        void become(Town other) {
            houses = other.houses;
            doors = other.doors;
            thieves = other.thieves;
            texts = other.texts;
            patience = other.patience;
            taken = other.taken;
            caught = other.caught;
            z = other.z;
            System.arraycopy(other.awake, 0, awake, 0, MOST_HOUSES);
            System.arraycopy(other.cares, 0, cares, 0, MOST_HOUSES);
            System.arraycopy(other.agrees, 0, agrees, 0, MOST_HOUSES);
            System.arraycopy(other.owner, 0, owner, 0, MOST_DOORS);
            System.arraycopy(other.worth, 0, worth, 0, MOST_DOORS);
            System.arraycopy(other.noise, 0, noise, 0, MOST_DOORS);
            System.arraycopy(other.bells, 0, bells, 0, 2 * MOST_DOORS);
            // Thieves and texts never change once they are made, so both towns may hold the same ones.
            for (int i = 0; i < MOST_THIEVES; i++) {
                band[i] = other.band[i];
            }
            for (int i = 0; i < MOST_TEXTS; i++) {
                laws[i] = other.laws[i];
            }
        }

        boolean isHouse(int house) {
            return house >= 0 && house < houses;
        }

        boolean isDoor(int door) {
            return door >= 0 && door < doors;
        }

        Thief thiefAt(int thief) {
            return within(thief, 0, thieves - 1) ? band[thief] : null;
        }

        Text textAt(int text) {
            return within(text, 0, texts - 1) ? laws[text] : null;
        }

        int addHouse(int itsAwake, int itsCares) {
            if (houses >= MOST_HOUSES) {
                return FULL;
            }
            awake[houses] = itsAwake;
            cares[houses] = itsCares;
            agrees[houses] = 0;
            houses++;
            return houses - 1;
        }

        int addDoor(int itsHouse, int itsWorth) {
            if (doors >= MOST_DOORS) {
                return FULL;
            }
            owner[doors] = itsHouse;
            worth[doors] = itsWorth;
            noise[doors] = 1;
            bells[2 * doors] = NONE;
            bells[2 * doors + 1] = NONE;
            doors++;
            return doors - 1;
        }

        int draw() {
            z = z * 1103515245 + 12345;
            return z >>> 8;
        }

        boolean doAgree(int one, int other) {
            return isHouse(one) && isHouse(other) && (agrees[one] >> other & 1) != 0;
        }

        /** Load of a house without the bells of one door (NONE: with those of all). */
        int load(int house, int without) {
            int load = 0;
            for (int i = 0; i < 2 * doors; i++) {
                if (bells[i] == house && i / 2 != without) {
                    load++;
                }
            }
            return load;
        }

        int hears(int house) {
            int hears = 0;
            for (int i = 0; i < 2 * doors; i++) {
                if (bells[i] == house) {
                    hears += noise[i / 2];
                }
            }
            return hears;
        }

        /** The houses in which a door rings, as bits. */
        int rings(int door) {
            int set = 0;
            for (int b = 0; b < 2 && isDoor(door); b++) {
                int house = bells[2 * door + b];
                if (isHouse(house)) {
                    set |= 1 << house;
                }
            }
            return set;
        }

        int lastOf(int key) {
            for (int i = texts - 1; i >= 0; i--) {
                Text law = laws[i];
                if (law != null && law.key == key) {
                    return i;
                }
            }
            return NONE;
        }

        int comesNow(int house) {
            if (!isHouse(house)) {
                return 0;
            }
            Text law = textAt(lastOf(COME));
            int load = load(house, NONE);
            if (law != null) {
                return held(law.gives(awake[house], cares[house], load, patience), 0, 100);
            }
            int tired = 10 * Math.max(0, load - patience);
            return held(awake[house] * cares[house] / 100 - tired, 0, 100);
        }

        void listen() {
            for (int h = 0; h < houses; h++) {
                comes[h] = comesNow(h);
            }
        }

        /** Missed at a door; the houses have been listened to before. */
        int missedBy(Thief thief, int door) {
            int chance = 1;
            for (int b = 0; b < 2 && isDoor(door); b++) {
                int house = bells[2 * door + b];
                chance *= isHouse(house) ? 100 - thief.heeds(this, house, comes[house]) : 100;
            }
            return chance;
        }

        int gainOf(int door, int missedThere) {
            if (!isDoor(door)) {
                return 0;
            }
            Text law = textAt(lastOf(GAIN));
            int gain = law == null ? worth[door] * missedThere / 10000 : law.gives(worth[door], missedThere, 0, 0);
            return held(gain, 0, 99999);
        }

        /** Nights change nothing that bears on missed and gain, so these are worked out once for all of a call. */
        void weigh() {
            listen();
            for (int t = 0; t < thieves; t++) {
                Thief thief = band[t];
                for (int d = 0; d < doors && thief != null; d++) {
                    int chance = missedBy(thief, d);
                    missed[t * MOST_DOORS + d] = chance;
                    gains[t * MOST_DOORS + d] = gainOf(d, chance);
                }
            }
        }

        /** Of the doors that are not of that home the first with the greatest of a row, from a place on. */
        int greatest(int home, int[] row, int from) {
            int best = NONE;
            if (from < 0 || from > row.length - doors) {
                return best;
            }
            for (int d = 0; d < doors; d++) {
                if (owner[d] != home && (best == NONE || row[from + d] > row[from + best])) {
                    best = d;
                }
            }
            return best;
        }

        int byLot(int home) {
            // No draw is made where nothing can be chosen.
            if (doors == 0 || greatest(home, worth, 0) == NONE) {
                return NONE;
            }
            int first = draw() % doors;
            for (int i = 0; i < doors; i++) {
                int door = (first + i) % doors;
                if (owner[door] != home) {
                    return door;
                }
            }
            return NONE;
        }

        /** One night; all has been weighed before. */
        void night() {
            for (int t = 0; t < thieves; t++) {
                Thief thief = band[t];
                int door = thief == null ? NONE : thief.picks(this, t);
                if (isDoor(door)) {
                    if (draw() % 10000 < missed[t * MOST_DOORS + door]) {
                        taken += worth[door];
                    } else {
                        caught++;
                    }
                }
            }
        }

        boolean wouldBeLawful(int door, int one, int other) {
            if (!isDoor(door) || !isHouse(one) || !isHouse(other) || one == other) {
                return false;
            }
            int own = owner[door];
            if (one == own || other == own || doAgree(one, other)) {
                return false;
            }
            Text law = textAt(lastOf(MAY));
            return law == null || law.gives(Math.min(one, other), Math.max(one, other), own, 0) != 0;
        }

        boolean isLawful(int door) {
            return isDoor(door) && wouldBeLawful(door, bells[2 * door], bells[2 * door + 1]);
        }

        int howManyUnlawful() {
            int many = 0;
            for (int d = 0; d < doors; d++) {
                if (!isLawful(d)) {
                    many++;
                }
            }
            return many;
        }

        int firstUnlawful() {
            for (int d = 0; d < doors; d++) {
                if (!isLawful(d)) {
                    return d;
                }
            }
            return NONE;
        }

        int bestPair(int door) {
            int best = NONE;
            int least = 0;
            for (int p = 0; p < houses; p++) {
                for (int q = p + 1; q < houses; q++) {
                    int loads = load(p, door) + load(q, door);
                    if ((best == NONE || loads < least) && wouldBeLawful(door, p, q)) {
                        best = 100 * p + q;
                        least = loads;
                    }
                }
            }
            return best;
        }
    }

    /** A thief never changes: one who turns is made anew, so slots and images keep him as he was. */
    private static class Thief {
        final int kind;
        final int home;

        Thief(int kind, int home) {
            this.kind = kind;
            this.home = home;
        }

        static Thief ofKind(int kind, int home) {
            switch (kind) {
                case KNOWING: return new Knowing(kind, home);
                case CUTTER: return new Cutter(kind, home);
                case NEAR: return new Near(kind, home);
                case QUICK: return new Quick(kind, home);
                case FEASTING: return new Feasting(kind, home);
                default: return new Thief(THIEF, home);
            }
        }

        final boolean isOf(int wanted) {
            switch (wanted) {
                case THIEF: return true;
                case KNOWING: return this instanceof Knowing;
                case CUTTER: return this instanceof Cutter;
                case NEAR: return this instanceof Near;
                case QUICK: return this instanceof Quick;
                case FEASTING: return this instanceof Feasting;
                default: return false;
            }
        }

        /** How much he heeds a bell in a house from which they come so likely. */
        int heeds(Town town, int house, int comes) {
            return comes;
        }

        /** The door that he chooses, he being of that number; all has been weighed before. */
        int picks(Town town, int number) {
            return town.byLot(home);
        }

        int value() {
            return home;
        }
    }

    private static class Knowing extends Thief {
        Knowing(int kind, int home) {
            super(kind, home);
        }

        int picks(Town town, int number) {
            return town.greatest(home, town.gains, number * MOST_DOORS);
        }

        int value() {
            return super.value() + 10;
        }
    }

    private static final class Near extends Knowing {
        Near(int kind, int home) {
            super(kind, home);
        }

        int heeds(Town town, int house, int comes) {
            return house == home || town.doAgree(house, home) ? 0 : super.heeds(town, house, comes);
        }

        int value() {
            return 2 * super.value();
        }
    }

    private static class Cutter extends Thief {
        Cutter(int kind, int home) {
            super(kind, home);
        }

        int heeds(Town town, int house, int comes) {
            return super.heeds(town, house, comes) / 2;
        }

        int value() {
            return super.value() - 1;
        }
    }

    private static final class Quick extends Cutter {
        Quick(int kind, int home) {
            super(kind, home);
        }

        int picks(Town town, int number) {
            return town.greatest(home, town.worth, 0);
        }

        int value() {
            return super.value() + 20;
        }
    }

    private static final class Feasting extends Thief {
        Feasting(int kind, int home) {
            super(kind, home);
        }

        int heeds(Town town, int house, int comes) {
            return Math.max(0, super.heeds(town, house, comes) - 30);
        }

        int value() {
            return 30;
        }
    }

    /** A law: code in which each sign stands behind what it joins. */
    private static final class Text {
        final int key;
        final int terms;
        private final int[] code;
        private final int[] stack;

        Text(int key, int terms, int[] code) {
            this.key = key;
            this.terms = terms;
            this.code = code;
            this.stack = new int[code.length];
        }

        /** What it gives where its names, in their order, stand for these. */
        int gives(int first, int second, int third, int fourth) {
            int top = 0;
            for (int i = 0; i < code.length; i++) {
                int part = code[i];
                if (part > SIGNS && top < stack.length) {
                    stack[top] = part >= 0 ? part : named(-1 - part, first, second, third, fourth);
                    top++;
                } else if (part == SIGNS - '!' && top > 0) {
                    stack[top - 1] = stack[top - 1] == 0 ? 1 : 0;
                } else if (top > 1) {
                    top--;
                    stack[top - 1] = joined(SIGNS - part, stack[top - 1], stack[top]);
                }
            }
            return top > 0 ? stack[0] : 0;
        }

        private static int named(int name, int first, int second, int third, int fourth) {
            switch (name) {
                case 0: return first;
                case 1: return second;
                case 2: return third;
                default: return fourth;
            }
        }

        private static int joined(int sign, int left, int right) {
            switch (sign) {
                case '|': return left != 0 || right != 0 ? 1 : 0;
                case '&': return left != 0 && right != 0 ? 1 : 0;
                case '<': return left < right ? 1 : 0;
                case '=': return left == right ? 1 : 0;
                case '>': return left > right ? 1 : 0;
                case '+': return left + right;
                case '-': return left - right;
                case '*': return left * right;
                case '/': return right == 0 ? 0 : left / right;
                default: return 0;
            }
        }
    }

    /** The tape, and the reading of it: word by word, with the signs that are still open on a stack. */
    private static final class Tape {
        private static final int END = 0, LETTERS = 1, DIGITS = 2, SIGN = 3;
        private static final int TESTS = 3;

        int size = 0;
        private final int[] bytes = new int[MOST_BYTES];
        private int from, to, sort;
        private int key, terms;
        private final int[] code = new int[MOST_BYTES];
        private int used;
        private final int[] open = new int[MOST_BYTES];
        private int depth, openBraces, openNots;
        private boolean wantsPiece;

        void addFour(int number) {
            for (int shift = 24; shift >= 0 && size < MOST_BYTES; shift -= 8) {
                bytes[size] = number >>> shift & 255;
                size++;
            }
        }

        /** The place of the fault, or NONE; without one, asText makes the text that was read. */
        int fault() {
            to = 0;
            terms = 0;
            used = 0;
            depth = 0;
            openBraces = 0;
            openNots = 0;
            wantsPiece = true;
            step();
            key = keyHere();
            if (key == NONE) {
                return from;
            }
            for (int i = 0; i <= MOST_BYTES; i++) {
                step();
                if (sort == END) {
                    return wantsPiece || openBraces > 0 ? from : NONE;
                }
                if (wantsPiece ? !takesPiece() : !takesJoin()) {
                    return from;
                }
            }
            return size;
        }

        Text asText() {
            for (; depth > 0; depth--) {
                emit(SIGNS - top());
            }
            return new Text(key, terms, Arrays.copyOf(code, used));
        }

        private int byteAt(int place) {
            return place >= 0 && place < size && place < MOST_BYTES ? bytes[place] : 0;
        }

        private static int sortOf(int sign) {
            if (sign >= 'a' && sign <= 'z') {
                return LETTERS;
            }
            return sign >= '0' && sign <= '9' ? DIGITS : SIGN;
        }

        /** Goes on to the next word or sign: its first byte is at from, the one behind its last at to. */
        private void step() {
            from = to;
            while (from < size && byteAt(from) == ' ') {
                from++;
            }
            to = from;
            sort = END;
            if (from >= size) {
                return;
            }
            sort = sortOf(byteAt(from));
            to++;
            while (sort != SIGN && to < size && sortOf(byteAt(to)) == sort) {
                to++;
            }
        }

        private boolean isWord(String word) {
            if (sort != LETTERS || to - from != word.length()) {
                return false;
            }
            for (int i = 0; i < word.length(); i++) {
                if (byteAt(from + i) != word.charAt(i)) {
                    return false;
                }
            }
            return true;
        }

        private int keyHere() {
            if (isWord("come")) {
                return COME;
            }
            if (isWord("gain")) {
                return GAIN;
            }
            return isWord("may") ? MAY : NONE;
        }

        private int nameHere() {
            if (to - from != 1) {
                return -1;
            }
            char letter = (char) byteAt(from);
            switch (key) {
                case COME: return "aclp".indexOf(letter);
                case GAIN: return "wm".indexOf(letter);
                default: return "pqo".indexOf(letter);
            }
        }

        private int numberHere() {
            int number = 0;
            for (int i = from; i < to; i++) {
                number = 10 * number + byteAt(i) - '0';
            }
            return number;
        }

        private boolean takesPiece() {
            if (sort != SIGN) {
                return takesTerm();
            }
            int sign = byteAt(from);
            if (sign == '(' && openBraces < MOST_OPEN) {
                openBraces++;
                push(sign);
                return true;
            }
            if (sign == '!' && openNots < MOST_OPEN) {
                openNots++;
                push(sign);
                return true;
            }
            return false;
        }

        private boolean takesTerm() {
            // A word right behind another one would have needed a blank.
            if (from > 0 && byteAt(from - 1) != ' ' && sortOf(byteAt(from - 1)) != SIGN) {
                return false;
            }
            if (sort == DIGITS) {
                if (to - from > 4) {
                    return false;
                }
                emit(numberHere());
            } else {
                int name = nameHere();
                if (name < 0) {
                    return false;
                }
                emit(-1 - name);
            }
            terms++;
            endPiece();
            return true;
        }

        private boolean takesJoin() {
            int sign = byteAt(from);
            if (sort == SIGN && sign == ')') {
                return takesEnd();
            }
            int rank = sort == SIGN ? rankOf(sign) : 0;
            if (rank == 0) {
                return false;
            }
            int least = rank == TESTS ? rank + 1 : rank;
            for (; depth > 0 && rankOf(top()) >= least; depth--) {
                emit(SIGNS - top());
            }
            // Only one test may stand between two sums.
            if (rank == TESTS && rankOf(top()) == TESTS) {
                return false;
            }
            push(sign);
            wantsPiece = true;
            return true;
        }

        private boolean takesEnd() {
            if (openBraces == 0) {
                return false;
            }
            for (; depth > 0 && top() != '('; depth--) {
                emit(SIGNS - top());
            }
            if (depth > 0) {
                depth--;
            }
            openBraces--;
            endPiece();
            return true;
        }

        private void endPiece() {
            for (; depth > 0 && top() == '!'; depth--) {
                emit(SIGNS - top());
                openNots--;
            }
            wantsPiece = false;
        }

        /** How tightly a sign between two pieces binds; 0: it is none. */
        private static int rankOf(int sign) {
            switch (sign) {
                case '|': return 1;
                case '&': return 2;
                case '<': case '=': case '>': return TESTS;
                case '+': case '-': return 4;
                case '*': case '/': return 5;
                default: return 0;
            }
        }

        private int top() {
            return depth > 0 && depth <= MOST_BYTES ? open[depth - 1] : 0;
        }

        private void push(int sign) {
            if (depth < MOST_BYTES) {
                open[depth] = sign;
                depth++;
            }
        }

        private void emit(int part) {
            if (used < MOST_BYTES) {
                code[used] = part;
                used++;
            }
        }
    }

    /** Places of either sort; NO NUMBER stands as NONE, which no place can hold otherwise. */
    private static final class Sheet {
        int sort = MISSING;
        int size = 0;
        final int[] places = new int[MOST_PLACES];

        void become(Sheet other) {
            sort = other.sort;
            size = other.size;
            System.arraycopy(other.places, 0, places, 0, MOST_PLACES);
        }

        boolean hasPlace(int place) {
            return within(place, 0, size - 1);
        }

        boolean hasPlaces(int place, int many) {
            return many >= 0 && place >= 0 && place <= size - many;
        }
    }

    private static final class Slot {
        int holds = HOLDS_NOTHING;
        Thief thief = null;
        final Sheet row = new Sheet();
        int number = 0;
    }
}
