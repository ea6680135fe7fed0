/** A wardrobe of names: the document's face, over one House that lives, one that is kept and one for trials. */
public final class NameRail {
    private static final int LOW = -1000001;
    private static final int BEYOND = 0;
    private static final int FULL = 1;
    private static final int KIND = 2;
    private static final int NONE = 3;
    private static final int STATE = 4;
    private static final int MISSING = 5;
    private static final int SIZE = 6;
    private static final int FINDINGS = 7;

    private static final int MOST_NAMES = 8;
    private static final int KINDS = 7;
    private static final int PEOPLE = 6;
    private static final int ORDERS = 720;
    private static final int SPOTS = 10;
    private static final int SHEETS = 4;
    private static final int MOST_NUMBERS = 40;
    private static final int MOST_BYTES = 120;
    private static final int MOST_AHEAD = 100;
    private static final int WORN_OUT = 50;
    private static final int MOST_WEAR = 99;
    private static final int MOST_DUTY = 99;
    private static final int MOST_PURSE = 9999;
    private static final int MOST_TOLD = 99999;

    // All rows are made here once: no call makes an object.
    private final House house = new House();
    private final House kept = new House();
    private final House trial = new House();
    private final Tape tape = new Tape();
    private final Reader reader = new Reader();
    private final Sheet[] sheets = new Sheet[SHEETS];
    private final int[] found = new int[FINDINGS];
    private boolean keeps = false;

    public NameRail() {
        for (int s = 0; s < SHEETS; s++) {
            sheets[s] = new Sheet();
        }
    }

    // ---- names, people

    public int name(int kind, int duty) {
        if (!within(kind, 0, KINDS - 1) || !within(duty, 0, MOST_DUTY)) {
            return finding(BEYOND);
        }
        if (house.names >= MOST_NAMES) {
            return finding(FULL);
        }
        return house.hangUp(kind, duty, 0, -1);
    }

    public int of(int name, int what) {
        if (!isName(name)) {
            return finding(BEYOND);
        }
        switch (what) {
            case 0: return house.kind[name];
            case 1: return house.duty[name];
            case 2: return house.wear[name];
            case 3: return house.debt[name];
            case 4: return house.foe[name];
            case 5: return house.due(name);
            case 6: return Kinds.fades(house.kind[name]);
            case 7: return house.hangs(name) ? 1 : 0;
            case 8: return house.foesOf(name);
            default: return finding(BEYOND);
        }
    }

    public int change(int name, int what, int v) {
        if (!isName(name)) {
            return finding(BEYOND);
        }
        switch (what) {
            case 0: return changed(house.kind, name, v, within(v, 0, KINDS - 1));
            case 1: return changed(house.duty, name, v, within(v, 0, MOST_DUTY));
            case 2: return changed(house.wear, name, v, within(v, 0, MOST_WEAR));
            case 3: return changed(house.debt, name, v, within(v, 0, MOST_TOLD));
            case 4: return changed(house.foe, name, v, isNameOrNone(v) && v != name);
            default: return finding(BEYOND);
        }
    }

    public int person(int person, int what, int v) {
        if (!isPerson(person)) {
            return finding(BEYOND);
        }
        switch (what) {
            case 0: return changed(house.purse, person, v, within(v, 0, MOST_PURSE));
            case 1: return changed(house.wish, person, v, isNameOrNone(v));
            default: return finding(BEYOND);
        }
    }

    public int personOf(int person, int what) {
        if (!isPerson(person)) {
            return finding(BEYOND);
        }
        switch (what) {
            case 0: return house.purse[person];
            case 1: return house.wish[person];
            case 2: return house.placeOf(person);
            default: return finding(BEYOND);
        }
    }

    public int order(int v) {
        if (!isOrder(v)) {
            return finding(BEYOND);
        }
        int was = house.order;
        house.order = v;
        return was;
    }

    public int at(int order, int place) {
        if (!isOrder(order) || !within(place, 0, PEOPLE - 1)) {
            return finding(BEYOND);
        }
        house.lineUp(order);
        return house.line[place];
    }

    // ---- days

    public int go(int n) {
        if (!within(n, 1, 60)) {
            return finding(BEYOND);
        }
        if (house.day + n > MOST_TOLD) {
            return finding(STATE);
        }
        house.pass(n);
        return house.purses();
    }

    public int now(int what) {
        switch (what) {
            case 0: return house.day;
            case 1: return house.hanging();
            case 2: return house.purses();
            case 3: return house.debts();
            case 4: return house.quarrels;
            case 5: return house.order;
            default: return finding(BEYOND);
        }
    }

    public int mend(int name, int person, int m) {
        if (!isName(name) || !isPerson(person) || !within(m, 0, 99)) {
            return finding(BEYOND);
        }
        if (house.purse[person] < m) {
            return finding(STATE);
        }
        house.purse[person] -= m;
        house.wear[name] = Math.max(0, house.wear[name] - m);
        return house.wear[name];
    }

    // ---- what will be (nothing changes)

    public int wears(int person) {
        if (!isPerson(person)) {
            return finding(BEYOND);
        }
        house.draw(house.order);
        return house.drawn[person];
    }

    public int ahead(int person, int n) {
        if (!isPerson(person) || !within(n, 0, MOST_AHEAD)) {
            return finding(BEYOND);
        }
        trial.become(house);
        trial.pass(n);
        return trial.purse[person];
    }

    public int owes(int name, int n) {
        if (!isName(name) || !within(n, 0, MOST_AHEAD)) {
            return finding(BEYOND);
        }
        trial.become(house);
        trial.pass(n);
        return trial.debt[name];
    }

    public int lasts(int name) {
        if (!isName(name)) {
            return finding(BEYOND);
        }
        trial.become(house);
        int days = trial.daysHung(name);
        return days > MOST_AHEAD ? finding(NONE) : days;
    }

    public int broke(int person) {
        if (!isPerson(person)) {
            return finding(BEYOND);
        }
        trial.become(house);
        for (int d = 0; d <= MOST_AHEAD; d++) {
            if (trial.purse[person] == 0) {
                return d;
            }
            trial.passDay();
        }
        return finding(NONE);
    }

    public int often(int person, int name, int n) {
        if (!isPerson(person) || !isName(name) || !within(n, 0, MOST_AHEAD)) {
            return finding(BEYOND);
        }
        trial.become(house);
        int times = 0;
        for (int d = 0; d < n; d++) {
            trial.passDay();
            if (trial.drawn[person] == name) {
                times++;
            }
        }
        return times;
    }

    public int kindFor(int name) {
        if (!isName(name)) {
            return finding(BEYOND);
        }
        int best = 0;
        int longest = -1;
        for (int k = 0; k < KINDS; k++) {
            trial.become(house);
            trial.kind[name] = k;
            int days = Math.min(trial.daysHung(name), MOST_AHEAD);
            if (days > longest) {
                best = k;
                longest = days;
            }
        }
        return best;
    }

    // ---- orders

    public int orderFor(int person, int name) {
        if (!isPerson(person) || !isName(name)) {
            return finding(BEYOND);
        }
        for (int o = 0; o < ORDERS; o++) {
            house.draw(o);
            if (house.drawn[person] == name) {
                return o;
            }
        }
        return finding(NONE);
    }

    public int orders(int person, int name) {
        if (!isPerson(person) || !isName(name)) {
            return finding(BEYOND);
        }
        int many = 0;
        for (int o = 0; o < ORDERS; o++) {
            house.draw(o);
            if (house.drawn[person] == name) {
                many++;
            }
        }
        return many;
    }

    public int cheapest() {
        int best = 0;
        int least = -1;
        for (int o = 0; o < ORDERS; o++) {
            house.draw(o);
            int dues = house.duesDrawn();
            if (o == 0 || dues < least) {
                best = o;
                least = dues;
            }
        }
        return best;
    }

    public int calmest() {
        int best = 0;
        int fewest = -1;
        for (int o = 0; o < ORDERS; o++) {
            house.draw(o);
            int pairs = house.pairsDrawn();
            if (o == 0 || pairs < fewest) {
                best = o;
                fewest = pairs;
            }
        }
        return best;
    }

    public int best(int person, int n) {
        if (!isPerson(person) || !within(n, 0, 10)) {
            return finding(BEYOND);
        }
        int best = 0;
        int most = -1;
        for (int o = 0; o < ORDERS; o++) {
            trial.become(house);
            trial.order = o;
            trial.pass(n);
            if (trial.purse[person] > most) {
                best = o;
                most = trial.purse[person];
            }
        }
        return best;
    }

    public int wishFor(int person, int n) {
        if (!isPerson(person) || !within(n, 0, 60)) {
            return finding(BEYOND);
        }
        int best = -1;
        int most = -1;
        for (int w = -1; w < house.names; w++) {
            trial.become(house);
            trial.wish[person] = w;
            trial.pass(n);
            if (trial.purse[person] > most) {
                best = w;
                most = trial.purse[person];
            }
        }
        return best;
    }

    // ---- peace, mending

    public int peace() {
        int hanging = house.hanging();
        int best = 0;
        for (int set = 0; set < 1 << house.names; set++) {
            if (isIn(set, hanging) && house.isPeaceful(set) && Integer.bitCount(set) > Integer.bitCount(best)) {
                best = set;
            }
        }
        return best;
    }

    public int peaceful(int k) {
        if (!within(k, 0, MOST_NAMES)) {
            return finding(BEYOND);
        }
        int hanging = house.hanging();
        int many = 0;
        for (int set = 0; set < 1 << house.names; set++) {
            if (Integer.bitCount(set) == k && isIn(set, hanging) && house.isPeaceful(set)) {
                many++;
            }
        }
        return many;
    }

    // Three groups always do: each NAME tells one FOE at most, so among any NAMES there is
    // one with at most two quarrels; put it last, and one of three groups is free for it.
    public int groups() {
        int all = (1 << house.names) - 1;
        if (all == 0) {
            return 0;
        }
        if (house.isPeaceful(all)) {
            return 1;
        }
        for (int set = 0; set <= all; set++) {
            if (house.isPeaceful(set) && house.isPeaceful(all & ~set)) {
                return 2;
            }
        }
        return 3;
    }

    public int mendFor(int n) {
        return richestWith(0, n);
    }

    public int without(int n) {
        return richestWith(MOST_WEAR, n);
    }

    // ---- what was paid

    public int fits(int s, int person) {
        int fault = faultOfFit(s, person);
        if (fault >= 0) {
            return finding(fault);
        }
        return Integer.bitCount(fitting(sheets[s], person));
    }

    public int wish(int s, int person) {
        int fault = faultOfFit(s, person);
        if (fault >= 0) {
            return finding(fault);
        }
        int set = fitting(sheets[s], person);
        return set == 0 ? finding(NONE) : lowest(set) - 1;
    }

    // ---- moths

    public int moths(int n) {
        if (!within(n, 1, 20)) {
            return finding(BEYOND);
        }
        if (house.day + n > MOST_TOLD) {
            return finding(STATE);
        }
        for (int i = 0; i < n; i++) {
            house.moth();
            house.passDay();
        }
        return Integer.bitCount(house.hanging());
    }

    public long odds(int n, int what) {
        if (!within(n, 0, 14) || !within(what, 0, 1)) {
            return finding(BEYOND);
        }
        int above = Integer.bitCount(house.hanging());
        int below = 16;
        // Powers of a fraction in lowest terms are in lowest terms.
        for (int i = 0; i < 4 && above % 2 == 0; i++) {
            above /= 2;
            below /= 2;
        }
        long power = 1;
        for (int i = 0; i < n; i++) {
            power *= what == 0 ? above : below;
        }
        return power;
    }

    public int seed(int v) {
        int was = house.z;
        house.z = v;
        return was;
    }

    // ---- texts

    public int feed(int bytes, int n) {
        if (!within(n, 1, 4)) {
            return finding(BEYOND);
        }
        if (tape.length > MOST_BYTES - n) {
            return finding(FULL);
        }
        for (int i = n - 1; i >= 0; i--) {
            tape.append((bytes >>> (8 * i)) & 255);
        }
        return tape.length;
    }

    public int wipe() {
        int had = tape.length;
        tape.length = 0;
        return had;
    }

    public int text() {
        trial.become(house);
        int items = reader.read(tape, trial);
        if (items >= 0) {
            house.become(trial);
        }
        tape.length = 0;
        return items;
    }

    // ---- spots, sheets

    public int hold(int spot, int name) {
        if (!within(spot, 0, SPOTS - 1) || !isNameOrNone(name)) {
            return finding(BEYOND);
        }
        house.spots[spot] = name;
        return 1;
    }

    public int as(int spot, int kind) {
        if (!within(spot, 0, SPOTS - 1) || !within(kind, 0, KINDS - 1)) {
            return finding(BEYOND);
        }
        int name = house.spots[spot];
        if (!isName(name)) {
            return finding(MISSING);
        }
        return Kinds.isUnder(house.kind[name], kind) ? name : finding(KIND);
    }

    public int sheet(int s, int bits, int n) {
        if (!isSheet(s) || (bits != 0 && bits != 8 && bits != 16 && bits != 32)) {
            return finding(BEYOND);
        }
        if (n < 0) {
            return finding(SIZE);
        }
        if (n > MOST_NUMBERS) {
            return finding(BEYOND);
        }
        sheets[s].layOut(bits, n);
        return sheets[s].length;
    }

    public int write(int s, int i, int v) {
        if (!isSheet(s)) {
            return finding(BEYOND);
        }
        if (sheets[s].bits == 0) {
            return finding(MISSING);
        }
        if (!within(i, 0, sheets[s].length - 1)) {
            return finding(BEYOND);
        }
        sheets[s].put(i, v);
        return 1;
    }

    public int copy(int s, int from, int t, int to, int n) {
        if (!isSheet(s) || !isSheet(t)) {
            return finding(BEYOND);
        }
        if (sheets[s].bits == 0 || sheets[t].bits == 0) {
            return finding(MISSING);
        }
        if (sheets[s].bits != sheets[t].bits) {
            return finding(KIND);
        }
        if (!sheets[s].has(from, n) || !sheets[t].has(to, n)) {
            return finding(BEYOND);
        }
        System.arraycopy(sheets[s].numbers, from, sheets[t].numbers, to, n);
        return n;
    }

    public int load(int s) {
        if (!isSheet(s)) {
            return finding(BEYOND);
        }
        Sheet sheet = sheets[s];
        if (sheet.bits == 0) {
            return finding(MISSING);
        }
        int came = 0;
        while (came < sheet.length && came < PEOPLE && within(sheet.numbers[came], 0, MOST_PURSE)) {
            house.purse[came] = sheet.numbers[came];
            came++;
        }
        return came;
    }

    public int judge(int s) {
        if (!isSheet(s)) {
            return finding(BEYOND);
        }
        Sheet sheet = sheets[s];
        if (sheet.bits == 0) {
            return finding(MISSING);
        }
        house.draw(house.order);
        for (int i = 0; i < sheet.length; i++) {
            if (i >= PEOPLE || sheet.numbers[i] != house.drawn[i]) {
                return 1 + i;
            }
        }
        return 0;
    }

    // ---- images

    public int image() {
        kept.become(house);
        keeps = true;
        return 1;
    }

    public int undo() {
        if (!keeps) {
            return finding(NONE);
        }
        house.become(kept);
        return house.day;
    }

    public int tear() {
        int was = keeps ? 1 : 0;
        keeps = false;
        return was;
    }

    public int count(int what) {
        switch (what) {
            case 0: return house.day;
            case 1: return house.names;
            case 2: return Integer.bitCount(house.hanging());
            case 3: return house.quarrels;
            case 4: return house.purses();
            case 5: return tape.length;
            case 6: return house.z;
            case 7: return house.spotsHeld();
            default: return finding(BEYOND);
        }
    }

    public int status(int which) {
        if (!within(which, -1, FINDINGS - 1)) {
            return finding(BEYOND);
        }
        if (which >= 0) {
            return found[which];
        }
        int all = 0;
        for (int f = 0; f < FINDINGS; f++) {
            all += found[f];
        }
        return all;
    }

    // ---- what several calls ask

    private int finding(int which) {
        found[which]++;
        return LOW - which;
    }

    private static boolean within(int v, int least, int most) {
        return v >= least && v <= most;
    }

    private static boolean isIn(int set, int other) {
        return (set & ~other) == 0;
    }

    // The place of the lowest bit of a set that has one.
    private static int lowest(int set) {
        return Integer.bitCount((set & -set) - 1);
    }

    private boolean isName(int name) {
        return within(name, 0, house.names - 1);
    }

    private boolean isNameOrNone(int name) {
        return within(name, -1, house.names - 1);
    }

    private static boolean isPerson(int person) {
        return within(person, 0, PEOPLE - 1);
    }

    private static boolean isOrder(int order) {
        return within(order, 0, ORDERS - 1);
    }

    private static boolean isSheet(int s) {
        return within(s, 0, SHEETS - 1);
    }

    private int changed(int[] row, int i, int v, boolean allowed) {
        if (!allowed) {
            return finding(BEYOND);
        }
        int was = row[i];
        row[i] = v;
        return was;
    }

    private int richestWith(int wear, int n) {
        if (!within(n, 0, 60)) {
            return finding(BEYOND);
        }
        int best = -1;
        int most = -1;
        for (int i = 0; i < house.names; i++) {
            trial.become(house);
            trial.wear[i] = wear;
            trial.pass(n);
            if (trial.purses() > most) {
                best = i;
                most = trial.purses();
            }
        }
        return best < 0 ? finding(NONE) : best;
    }

    // The finding that fits and wish share; -1: none.
    private int faultOfFit(int s, int person) {
        if (!isSheet(s)) {
            return BEYOND;
        }
        if (sheets[s].bits == 0) {
            return MISSING;
        }
        return isPerson(person) ? -1 : BEYOND;
    }

    // Bit w + 1 stands for the WISH w, so that -1 has a bit, too.
    private int fitting(Sheet sheet, int person) {
        int set = 0;
        for (int w = -1; w < house.names; w++) {
            trial.become(house);
            trial.wish[person] = w;
            if (trial.pays(sheet, person)) {
                set |= 1 << (w + 1);
            }
        }
        return set;
    }

    /** What a KIND makes of DUTY, WEAR and DEBT. */
    private static final class Kinds {
        static final int NAME = 0;
        static final int STRETCHED = 1;
        static final int DOUBLE = 2;
        static final int LEFT = 3;
        static final int NOBODYS = 4;
        static final int MOTHY = 5;
        static final int TORN = 6;

        // -1: nothing is above it.
        static int above(int kind) {
            switch (kind) {
                case STRETCHED: return NAME;
                case DOUBLE: return NAME;
                case LEFT: return DOUBLE;
                case NOBODYS: return LEFT;
                case MOTHY: return NAME;
                case TORN: return STRETCHED;
                default: return -1;
            }
        }

        static boolean isUnder(int kind, int top) {
            int k = kind;
            for (int i = 0; i < KINDS && k != top; i++) {
                k = above(k);
            }
            return k == top;
        }

        static int due(int kind, int duty, int wear, int debt) {
            int stretched = duty + wear / 10;
            int left = debt > 0 ? 0 : 2 * duty;
            switch (kind) {
                case STRETCHED: return stretched;
                case TORN: return stretched + 5;
                case DOUBLE: return 2 * duty;
                case LEFT: return left;
                case NOBODYS: return left / 2;
                case MOTHY: return duty / 2;
                default: return duty;
            }
        }

        static int fades(int kind) {
            switch (kind) {
                case STRETCHED: return 2;
                case TORN: return 4;
                case MOTHY: return 3;
                default: return 1;
            }
        }
    }

    /** All that an image keeps; line and drawn are scratch of the latest draw. */
    private static final class House {
        int names = 0;
        final int[] kind = new int[MOST_NAMES];
        final int[] duty = new int[MOST_NAMES];
        final int[] wear = new int[MOST_NAMES];
        final int[] debt = new int[MOST_NAMES];
        final int[] foe = new int[MOST_NAMES];
        final int[] purse = new int[PEOPLE];
        final int[] wish = new int[PEOPLE];
        final int[] spots = new int[SPOTS];
        int order = 0;
        int day = 0;
        int quarrels = 0;
        int z = 1;
        final int[] line = new int[PEOPLE];
        final int[] drawn = new int[PEOPLE];

        House() {
            for (int p = 0; p < PEOPLE; p++) {
                purse[p] = 100;
                wish[p] = -1;
            }
            for (int i = 0; i < SPOTS; i++) {
                spots[i] = -1;
            }
        }

        void become(House other) {
            names = other.names;
            System.arraycopy(other.kind, 0, kind, 0, MOST_NAMES);
            System.arraycopy(other.duty, 0, duty, 0, MOST_NAMES);
            System.arraycopy(other.wear, 0, wear, 0, MOST_NAMES);
            System.arraycopy(other.debt, 0, debt, 0, MOST_NAMES);
            System.arraycopy(other.foe, 0, foe, 0, MOST_NAMES);
            System.arraycopy(other.purse, 0, purse, 0, PEOPLE);
            System.arraycopy(other.wish, 0, wish, 0, PEOPLE);
            System.arraycopy(other.spots, 0, spots, 0, SPOTS);
            order = other.order;
            day = other.day;
            quarrels = other.quarrels;
            z = other.z;
        }

        // The number of the new NAME; -1: the rail is full.
        int hangUp(int itsKind, int itsDuty, int itsWear, int itsFoe) {
            if (names >= MOST_NAMES) {
                return -1;
            }
            kind[names] = itsKind;
            duty[names] = itsDuty;
            wear[names] = itsWear;
            debt[names] = 0;
            foe[names] = itsFoe;
            names++;
            return names - 1;
        }

        int due(int name) {
            return Kinds.due(kind[name], duty[name], wear[name], debt[name]);
        }

        boolean hangs(int name) {
            return wear[name] < WORN_OUT;
        }

        int hanging() {
            int set = 0;
            for (int i = 0; i < names; i++) {
                if (hangs(i)) {
                    set |= 1 << i;
                }
            }
            return set;
        }

        int foesOf(int name) {
            int set = foe[name] >= 0 ? 1 << foe[name] : 0;
            for (int i = 0; i < names; i++) {
                if (foe[i] == name) {
                    set |= 1 << i;
                }
            }
            return set;
        }

        // A pair that both of its NAMES tell counts once, by the lesser.
        int pairsIn(int set) {
            int pairs = 0;
            for (int i = 0; i < names; i++) {
                int f = foe[i];
                if ((set >> i & 1) == 1 && f >= 0 && f < names && (set >> f & 1) == 1
                        && (i < f || foe[f] != i)) {
                    pairs++;
                }
            }
            return pairs;
        }

        boolean isPeaceful(int set) {
            return pairsIn(set) == 0;
        }

        int purses() {
            int sum = 0;
            for (int p = 0; p < PEOPLE; p++) {
                sum += purse[p];
            }
            return sum;
        }

        int debts() {
            int sum = 0;
            for (int i = 0; i < names; i++) {
                sum += debt[i];
            }
            return sum;
        }

        int spotsHeld() {
            int held = 0;
            for (int i = 0; i < SPOTS; i++) {
                if (spots[i] >= 0) {
                    held++;
                }
            }
            return held;
        }

        // The number of an order, told to the bases 1, 2, .. 6 from the last place on, tells for
        // each place how many lesser people still stand behind it.
        void lineUp(int byOrder) {
            int rest = byOrder;
            for (int place = PEOPLE - 1; place >= 0; place--) {
                int left = PEOPLE - place;
                line[place] = rest % left;
                rest /= left;
                for (int behind = place + 1; behind < PEOPLE; behind++) {
                    if (line[behind] >= line[place]) {
                        line[behind]++;
                    }
                }
            }
        }

        int placeOf(int person) {
            lineUp(order);
            int place = 0;
            while (place < PEOPLE - 1 && line[place] != person) {
                place++;
            }
            return place;
        }

        void draw(int byOrder) {
            lineUp(byOrder);
            int free = hanging();
            for (int place = 0; place < PEOPLE; place++) {
                int p = line[place];
                if (p < 0 || p >= PEOPLE) {
                    continue;
                }
                int name = -1;
                if (wish[p] >= 0 && (free >> wish[p] & 1) == 1) {
                    name = wish[p];
                } else if (free != 0) {
                    name = lowest(free);
                }
                drawn[p] = name;
                if (name >= 0) {
                    free &= ~(1 << name);
                }
            }
        }

        boolean draws(int person) {
            return drawn[person] >= 0 && drawn[person] < names;
        }

        int duesDrawn() {
            int sum = 0;
            for (int p = 0; p < PEOPLE; p++) {
                if (draws(p)) {
                    sum += due(drawn[p]);
                }
            }
            return sum;
        }

        int pairsDrawn() {
            int set = 0;
            for (int p = 0; p < PEOPLE; p++) {
                if (draws(p)) {
                    set |= 1 << drawn[p];
                }
            }
            return pairsIn(set);
        }

        void passDay() {
            draw(order);
            for (int p = 0; p < PEOPLE; p++) {
                if (draws(p)) {
                    pay(p, drawn[p]);
                    fade(drawn[p]);
                }
            }
            quarrels = Math.min(MOST_TOLD, quarrels + pairsDrawn());
            day = Math.min(MOST_TOLD, day + 1);
        }

        void pay(int person, int name) {
            int due = due(name);
            int paid = Math.min(due, purse[person]);
            purse[person] -= paid;
            debt[name] = Math.min(MOST_TOLD, debt[name] + due - paid);
        }

        void fade(int name) {
            wear[name] = Math.min(MOST_WEAR, wear[name] + Kinds.fades(kind[name]));
        }

        void pass(int days) {
            for (int d = 0; d < days; d++) {
                passDay();
            }
        }

        // Behind how many DAYS a NAME doesn't hang; MOST_AHEAD + 1: it hangs even then.
        int daysHung(int name) {
            int d = 0;
            while (d <= MOST_AHEAD && hangs(name)) {
                passDay();
                d++;
            }
            return d;
        }

        boolean pays(Sheet sheet, int person) {
            for (int d = 0; d < sheet.length; d++) {
                if (d > 0) {
                    passDay();
                }
                if (sheet.numbers[d] != -1 && sheet.numbers[d] != purse[person]) {
                    return false;
                }
            }
            return true;
        }

        void moth() {
            z = z * 1103515245 + 12345;
            int name = (z >>> 8) % 16;
            if (name < names) {
                wear[name] = Math.min(MOST_WEAR, wear[name] + 10);
            }
        }
    }

    /** THE TAPE. */
    private static final class Tape {
        final int[] bytes = new int[MOST_BYTES];
        int length = 0;

        void append(int b) {
            if (length < MOST_BYTES) {
                bytes[length] = b;
                length++;
            }
        }

        // -1 behind the last byte.
        int byteAt(int place) {
            return place >= 0 && place < length ? bytes[place] : -1;
        }
    }

    /** A SHEET: of 0 bits it is MISSING. */
    private static final class Sheet {
        final int[] numbers = new int[MOST_NUMBERS];
        int bits = 0;
        int length = 0;

        void layOut(int itsBits, int itsLength) {
            bits = itsBits;
            length = itsBits == 0 ? 0 : itsLength;
            for (int i = 0; i < MOST_NUMBERS; i++) {
                numbers[i] = 0;
            }
        }

        void put(int i, int v) {
            switch (bits) {
                case 8: numbers[i] = (byte) v; break;
                case 16: numbers[i] = (short) v; break;
                default: numbers[i] = v; break;
            }
        }

        boolean has(int from, int n) {
            return from >= 0 && n >= 0 && from <= length && n <= length - from;
        }
    }

    /** Reads THE TAPE as a TEXT, one TOKEN ahead, and makes of a House what it tells. */
    private static final class Reader {
        private static final int END = 0;
        private static final int WORD = 1;
        private static final int NUMBER = 2;
        private static final int SIGN = 3;
        private static final int OTHER = 4;

        private Tape tape;
        private int sort;
        private int first;
        private int behind;
        private int value;

        // How many ITEMS, or -1 less the FAULT.
        int read(Tape told, House house) {
            tape = told;
            behind = 0;
            step();
            for (int items = 1; items <= MOST_BYTES; items++) {
                if (!item(house)) {
                    return -1 - first;
                }
                if (sort == END) {
                    return items;
                }
                if (sort != SIGN) {
                    return -1 - first;
                }
                step();
            }
            return -1 - first;
        }

        private void step() {
            first = behind;
            while (first < MOST_BYTES && tape.byteAt(first) == ' ') {
                first++;
            }
            behind = first;
            int b = tape.byteAt(first);
            if (b == -1) {
                sort = END;
            } else if (isLetter(b)) {
                sort = WORD;
                stepWord();
            } else if (isDigit(b)) {
                sort = NUMBER;
                stepNumber();
            } else {
                sort = b == ';' ? SIGN : OTHER;
                behind = first + 1;
            }
        }

        private void stepWord() {
            while (behind < MOST_BYTES && isLetter(tape.byteAt(behind))) {
                behind++;
            }
        }

        // A NUMBER above 9999 stays above it, however long it is.
        private void stepNumber() {
            value = 0;
            while (behind < MOST_BYTES && isDigit(tape.byteAt(behind))) {
                value = Math.min(10000, value * 10 + tape.byteAt(behind) - '0');
                behind++;
            }
        }

        private static boolean isLetter(int b) {
            return b >= 'a' && b <= 'z';
        }

        private static boolean isDigit(int b) {
            return b >= '0' && b <= '9';
        }

        private boolean isWord(String word) {
            if (sort != WORD || behind - first != word.length()) {
                return false;
            }
            for (int i = 0; i < word.length(); i++) {
                if (tape.byteAt(first + i) != word.charAt(i)) {
                    return false;
                }
            }
            return true;
        }

        private boolean isNumberTo(int most) {
            return sort == NUMBER && value <= most;
        }

        private int kindTold() {
            if (isWord("name")) {
                return Kinds.NAME;
            }
            if (isWord("stretched")) {
                return Kinds.STRETCHED;
            }
            if (isWord("double")) {
                return Kinds.DOUBLE;
            }
            if (isWord("left")) {
                return Kinds.LEFT;
            }
            if (isWord("nobodys")) {
                return Kinds.NOBODYS;
            }
            if (isWord("mothy")) {
                return Kinds.MOTHY;
            }
            return isWord("torn") ? Kinds.TORN : -1;
        }

        // Each of these ends behind its last TOKEN, or, with a FAULT, at the TOKEN that can't stand there.
        private boolean item(House house) {
            int kind = kindTold();
            if (kind >= 0) {
                return house.names < MOST_NAMES && nameItem(house, kind);
            }
            if (isWord("person")) {
                return personItem(house);
            }
            return isWord("order") && orderItem(house);
        }

        private boolean nameItem(House house, int kind) {
            step();
            if (!isNumberTo(MOST_DUTY)) {
                return false;
            }
            int duty = value;
            int wear = 0;
            int foe = -1;
            step();
            if (isWord("worn")) {
                step();
                if (!isNumberTo(MOST_WEAR)) {
                    return false;
                }
                wear = value;
                step();
            }
            if (isWord("against")) {
                step();
                if (!isNumberTo(house.names - 1)) {
                    return false;
                }
                foe = value;
                step();
            }
            return house.hangUp(kind, duty, wear, foe) >= 0;
        }

        private boolean personItem(House house) {
            step();
            if (!isNumberTo(PEOPLE - 1)) {
                return false;
            }
            int person = value;
            step();
            if (isWord("purse")) {
                step();
                if (!isNumberTo(MOST_PURSE)) {
                    return false;
                }
                house.purse[person] = value;
                step();
            }
            if (isWord("wishes")) {
                step();
                if (!isNumberTo(house.names - 1)) {
                    return false;
                }
                house.wish[person] = value;
                step();
            }
            return true;
        }

        private boolean orderItem(House house) {
            step();
            if (!isNumberTo(ORDERS - 1)) {
                return false;
            }
            house.order = value;
            step();
            return true;
        }
    }
}
