import java.util.ArrayList;
import java.util.Arrays;
import java.util.HashSet;
import java.util.List;
import java.util.Set;
import java.util.function.IntPredicate;
import java.util.function.ToIntFunction;
import java.util.regex.Matcher;
import java.util.regex.Pattern;

/** The document once more, written as plainly as the Java library allows, to be held against NameRail. */
final class PlainRail {
    private static final int BEYOND = 0;
    private static final int FULL = 1;
    private static final int KIND = 2;
    private static final int NONE = 3;
    private static final int STATE = 4;
    private static final int MISSING = 5;
    private static final int SIZE = 6;
    private static final List<String> KINDS =
            List.of("name", "stretched", "double", "left", "nobodys", "mothy", "torn");
    private static final List<List<Integer>> ORDERS = new ArrayList<>();

    static {
        addOrders(new ArrayList<>());
    }

    private static void addOrders(List<Integer> begun) {
        if (begun.size() == 6) {
            ORDERS.add(List.copyOf(begun));
            return;
        }
        for (int p = 0; p < 6; p++) {
            if (!begun.contains(p)) {
                List<Integer> more = new ArrayList<>(begun);
                more.add(p);
                addOrders(more);
            }
        }
    }

    private static final class Name {
        int kind;
        int duty;
        int wear;
        int debt;
        int foe = -1;

        Name copy() {
            Name n = new Name();
            n.kind = kind;
            n.duty = duty;
            n.wear = wear;
            n.debt = debt;
            n.foe = foe;
            return n;
        }

        boolean hangs() {
            return wear < 50;
        }

        int dueAs(int k) {
            switch (k) {
                case 0: return duty;
                case 1: return dueAs(0) + wear / 10;
                case 2: return 2 * dueAs(0);
                case 3: return debt != 0 ? 0 : dueAs(2);
                case 4: return dueAs(3) / 2;
                case 5: return dueAs(0) / 2;
                case 6: return dueAs(1) + 5;
                default: throw new IllegalStateException();
            }
        }

        int fadesAs(int k) {
            switch (k) {
                case 0: return 1;
                case 1: return fadesAs(0) + 1;
                case 6: return 2 * fadesAs(1);
                case 5: return 3;
                default: return fadesAs(0);
            }
        }
    }

    private static final class World {
        List<Name> names = new ArrayList<>();
        int[] purse = {100, 100, 100, 100, 100, 100};
        int[] wish = {-1, -1, -1, -1, -1, -1};
        int[] spots = {-1, -1, -1, -1, -1, -1, -1, -1, -1, -1};
        int order = 0;
        int day = 0;
        int quarrels = 0;
        int z = 1;

        World copy() {
            World w = new World();
            for (Name n : names) {
                w.names.add(n.copy());
            }
            w.purse = purse.clone();
            w.wish = wish.clone();
            w.spots = spots.clone();
            w.order = order;
            w.day = day;
            w.quarrels = quarrels;
            w.z = z;
            return w;
        }

        boolean quarrel(int a, int b) {
            return names.get(a).foe == b || names.get(b).foe == a;
        }

        int[] draw() {
            int[] drawn = new int[6];
            Arrays.fill(drawn, -1);
            Set<Integer> gone = new HashSet<>();
            for (int p : ORDERS.get(order)) {
                int w = wish[p];
                if (w >= 0 && names.get(w).hangs() && !gone.contains(w)) {
                    drawn[p] = w;
                } else {
                    for (int i = 0; i < names.size() && drawn[p] < 0; i++) {
                        if (names.get(i).hangs() && !gone.contains(i)) {
                            drawn[p] = i;
                        }
                    }
                }
                gone.add(drawn[p]);
            }
            return drawn;
        }

        int pairs(int[] drawn) {
            int pairs = 0;
            for (int a = 0; a < 6; a++) {
                for (int b = 0; b < a; b++) {
                    if (drawn[a] >= 0 && drawn[b] >= 0 && quarrel(drawn[a], drawn[b])) {
                        pairs++;
                    }
                }
            }
            return pairs;
        }

        void day() {
            int[] drawn = draw();
            for (int p = 0; p < 6; p++) {
                if (drawn[p] >= 0) {
                    Name n = names.get(drawn[p]);
                    int due = n.dueAs(n.kind);
                    int paid = Math.min(due, purse[p]);
                    purse[p] -= paid;
                    n.debt = Math.min(99999, n.debt + (due - paid));
                }
            }
            for (int p = 0; p < 6; p++) {
                if (drawn[p] >= 0) {
                    Name n = names.get(drawn[p]);
                    n.wear = Math.min(99, n.wear + n.fadesAs(n.kind));
                }
            }
            quarrels = Math.min(99999, quarrels + pairs(drawn));
            day = Math.min(99999, day + 1);
        }

        World behind(int days) {
            World w = copy();
            for (int d = 0; d < days; d++) {
                w.day();
            }
            return w;
        }

        int purses() {
            return Arrays.stream(purse).sum();
        }

        int hanging() {
            int set = 0;
            for (int i = 0; i < names.size(); i++) {
                set += names.get(i).hangs() ? 1 << i : 0;
            }
            return set;
        }

        boolean peaceful(int set) {
            for (int a = 0; a < names.size(); a++) {
                for (int b = 0; b < names.size(); b++) {
                    if (a != b && (set & 1 << a) != 0 && (set & 1 << b) != 0 && quarrel(a, b)) {
                        return false;
                    }
                }
            }
            return true;
        }

        boolean coloured(int[] group, int i, int groups) {
            if (i == names.size()) {
                return true;
            }
            for (int g = 0; g < groups; g++) {
                boolean free = true;
                for (int j = 0; j < i; j++) {
                    free &= group[j] != g || !quarrel(i, j);
                }
                group[i] = g;
                if (free && coloured(group, i + 1, groups)) {
                    return true;
                }
            }
            return false;
        }
    }

    private World now = new World();
    private World kept = null;
    private StringBuilder tape = new StringBuilder();
    private final long[][] sheets = new long[4][];
    private final int[] bitsOf = new int[4];
    private final int[] found = new int[7];

    private int finding(int which) {
        found[which]++;
        return -1000001 - which;
    }

    private boolean noName(int name) {
        return name < 0 || name >= now.names.size();
    }

    private boolean noPerson(int person) {
        return person < 0 || person > 5;
    }

    private boolean noSheet(int s) {
        return s < 0 || s > 3;
    }

    int name(int kind, int duty) {
        if (kind < 0 || kind > 6 || duty < 0 || duty > 99) {
            return finding(BEYOND);
        }
        if (now.names.size() == 8) {
            return finding(FULL);
        }
        Name n = new Name();
        n.kind = kind;
        n.duty = duty;
        now.names.add(n);
        return now.names.size() - 1;
    }

    int of(int name, int what) {
        if (noName(name) || what < 0 || what > 8) {
            return finding(BEYOND);
        }
        Name n = now.names.get(name);
        int foes = 0;
        for (int i = 0; i < now.names.size(); i++) {
            foes += i != name && now.quarrel(i, name) ? 1 << i : 0;
        }
        int[] all = {n.kind, n.duty, n.wear, n.debt, n.foe, n.dueAs(n.kind), n.fadesAs(n.kind), n.hangs() ? 1 : 0, foes};
        return all[what];
    }

    int change(int name, int what, int v) {
        int[] most = {6, 99, 99, 99999, now.names.size() - 1};
        if (noName(name) || what < 0 || what > 4 || v > most[what] || v < (what == 4 ? -1 : 0)) {
            return finding(BEYOND);
        }
        if (what == 4 && v == name) {
            return finding(BEYOND);
        }
        Name n = now.names.get(name);
        int[] was = {n.kind, n.duty, n.wear, n.debt, n.foe};
        switch (what) {
            case 0: n.kind = v; break;
            case 1: n.duty = v; break;
            case 2: n.wear = v; break;
            case 3: n.debt = v; break;
            default: n.foe = v; break;
        }
        return was[what];
    }

    int person(int person, int what, int v) {
        if (noPerson(person) || what < 0 || what > 1) {
            return finding(BEYOND);
        }
        if (what == 0 ? v < 0 || v > 9999 : v < -1 || v >= now.names.size()) {
            return finding(BEYOND);
        }
        int[] row = what == 0 ? now.purse : now.wish;
        int was = row[person];
        row[person] = v;
        return was;
    }

    int personOf(int person, int what) {
        if (noPerson(person) || what < 0 || what > 2) {
            return finding(BEYOND);
        }
        return what == 0 ? now.purse[person] : what == 1 ? now.wish[person] : ORDERS.get(now.order).indexOf(person);
    }

    int order(int v) {
        if (v < 0 || v >= 720) {
            return finding(BEYOND);
        }
        int was = now.order;
        now.order = v;
        return was;
    }

    int at(int order, int place) {
        if (order < 0 || order >= 720 || place < 0 || place >= 6) {
            return finding(BEYOND);
        }
        return ORDERS.get(order).get(place);
    }

    int go(int n) {
        if (n < 1 || n > 60) {
            return finding(BEYOND);
        }
        if (now.day + n > 99999) {
            return finding(STATE);
        }
        now = now.behind(n);
        return now.purses();
    }

    int now(int what) {
        if (what < 0 || what > 5) {
            return finding(BEYOND);
        }
        int debts = now.names.stream().mapToInt(n -> n.debt).sum();
        return new int[] {now.day, now.hanging(), now.purses(), debts, now.quarrels, now.order}[what];
    }

    int mend(int name, int person, int m) {
        if (noName(name) || noPerson(person) || m < 0 || m > 99) {
            return finding(BEYOND);
        }
        if (now.purse[person] < m) {
            return finding(STATE);
        }
        now.purse[person] -= m;
        Name n = now.names.get(name);
        n.wear = n.wear > m ? n.wear - m : 0;
        return n.wear;
    }

    int wears(int person) {
        return noPerson(person) ? finding(BEYOND) : now.draw()[person];
    }

    int ahead(int person, int n) {
        return noPerson(person) || n < 0 || n > 100 ? finding(BEYOND) : now.behind(n).purse[person];
    }

    int owes(int name, int n) {
        return noName(name) || n < 0 || n > 100 ? finding(BEYOND) : now.behind(n).names.get(name).debt;
    }

    int lasts(int name) {
        if (noName(name)) {
            return finding(BEYOND);
        }
        World w = now.copy();
        for (int d = 0; d <= 100; d++, w.day()) {
            if (!w.names.get(name).hangs()) {
                return d;
            }
        }
        return finding(NONE);
    }

    int broke(int person) {
        if (noPerson(person)) {
            return finding(BEYOND);
        }
        World w = now.copy();
        for (int d = 0; d <= 100; d++, w.day()) {
            if (w.purse[person] == 0) {
                return d;
            }
        }
        return finding(NONE);
    }

    int often(int person, int name, int n) {
        if (noPerson(person) || noName(name) || n < 0 || n > 100) {
            return finding(BEYOND);
        }
        int times = 0;
        World w = now.copy();
        for (int d = 0; d < n; d++, w.day()) {
            times += w.draw()[person] == name ? 1 : 0;
        }
        return times;
    }

    /** The least of from .. to - 1 for which the measure is greatest. */
    private static int greatest(int from, int to, ToIntFunction<Integer> measure) {
        int best = from;
        for (int i = from + 1; i < to; i++) {
            if (measure.applyAsInt(i) > measure.applyAsInt(best)) {
                best = i;
            }
        }
        return best;
    }

    private int[] byOrders(ToIntFunction<World> told) {
        int[] all = new int[720];
        for (int o = 0; o < 720; o++) {
            World w = now.copy();
            w.order = o;
            all[o] = told.applyAsInt(w);
        }
        return all;
    }

    int kindFor(int name) {
        if (noName(name)) {
            return finding(BEYOND);
        }
        int[] days = new int[7];
        for (int k = 0; k < 7; k++) {
            World w = now.copy();
            w.names.get(name).kind = k;
            while (days[k] < 100 && w.names.get(name).hangs()) {
                w.day();
                days[k]++;
            }
        }
        return greatest(0, 7, k -> days[k]);
    }

    int orderFor(int person, int name) {
        if (noPerson(person) || noName(name)) {
            return finding(BEYOND);
        }
        int[] does = byOrders(w -> w.draw()[person] == name ? 1 : 0);
        int best = greatest(0, 720, o -> does[o]);
        return does[best] == 0 ? finding(NONE) : best;
    }

    int orders(int person, int name) {
        if (noPerson(person) || noName(name)) {
            return finding(BEYOND);
        }
        return Arrays.stream(byOrders(w -> w.draw()[person] == name ? 1 : 0)).sum();
    }

    int cheapest() {
        int[] less = byOrders(w -> -Arrays.stream(w.draw()).filter(i -> i >= 0)
                .map(i -> w.names.get(i).dueAs(w.names.get(i).kind)).sum());
        return greatest(0, 720, o -> less[o]);
    }

    int calmest() {
        int[] less = byOrders(w -> -w.pairs(w.draw()));
        return greatest(0, 720, o -> less[o]);
    }

    int best(int person, int n) {
        if (noPerson(person) || n < 0 || n > 10) {
            return finding(BEYOND);
        }
        int[] purses = byOrders(w -> w.behind(n).purse[person]);
        return greatest(0, 720, o -> purses[o]);
    }

    int wishFor(int person, int n) {
        if (noPerson(person) || n < 0 || n > 60) {
            return finding(BEYOND);
        }
        return greatest(-1, now.names.size(), wish -> {
            World w = now.copy();
            w.wish[person] = wish;
            return w.behind(n).purse[person];
        });
    }

    int peace() {
        int hanging = now.hanging();
        return greatest(0, 256, set ->
                (set & hanging) == set && now.peaceful(set) ? Integer.bitCount(set) : -1);
    }

    int peaceful(int k) {
        if (k < 0 || k > 8) {
            return finding(BEYOND);
        }
        int many = 0;
        for (int set = 0; set < 256; set++) {
            if ((set & now.hanging()) == set && Integer.bitCount(set) == k && now.peaceful(set)) {
                many++;
            }
        }
        return many;
    }

    int groups() {
        int groups = 0;
        while (!now.coloured(new int[8], 0, groups)) {
            groups++;
        }
        return groups;
    }

    private int richest(int n, int wear) {
        if (n < 0 || n > 60) {
            return finding(BEYOND);
        }
        if (now.names.isEmpty()) {
            return finding(NONE);
        }
        return greatest(0, now.names.size(), i -> {
            World w = now.copy();
            w.names.get(i).wear = wear;
            return w.behind(n).purses();
        });
    }

    int mendFor(int n) {
        return richest(n, 0);
    }

    int without(int n) {
        return richest(n, 99);
    }

    private int faultOfFit(int s, int person) {
        return noSheet(s) ? BEYOND : sheets[s] == null ? MISSING : noPerson(person) ? BEYOND : -1;
    }

    private List<Integer> fitting(int s, int person) {
        List<Integer> wishes = new ArrayList<>();
        for (int wish = -1; wish < now.names.size(); wish++) {
            World w = now.copy();
            w.wish[person] = wish;
            boolean fits = true;
            for (int d = 0; d < sheets[s].length; d++) {
                long told = sheets[s][d];
                fits &= told == -1 || told == w.behind(d).purse[person];
            }
            if (fits) {
                wishes.add(wish);
            }
        }
        return wishes;
    }

    int fits(int s, int person) {
        int fault = faultOfFit(s, person);
        return fault >= 0 ? finding(fault) : fitting(s, person).size();
    }

    int wish(int s, int person) {
        int fault = faultOfFit(s, person);
        if (fault >= 0) {
            return finding(fault);
        }
        List<Integer> wishes = fitting(s, person);
        return wishes.isEmpty() ? finding(NONE) : wishes.get(0);
    }

    int moths(int n) {
        if (n < 1 || n > 20) {
            return finding(BEYOND);
        }
        if (now.day + n > 99999) {
            return finding(STATE);
        }
        for (int i = 0; i < n; i++) {
            now.z = (int) ((now.z & 0xffffffffL) * 1103515245L + 12345L);
            int rest = (int) (((now.z & 0xffffffffL) / 256) % 16);
            if (rest < now.names.size()) {
                now.names.get(rest).wear = Math.min(99, now.names.get(rest).wear + 10);
            }
            now.day();
        }
        return Integer.bitCount(now.hanging());
    }

    long odds(int n, int what) {
        if (n < 0 || n > 14 || what < 0 || what > 1) {
            return finding(BEYOND);
        }
        java.math.BigInteger above = java.math.BigInteger.valueOf(Integer.bitCount(now.hanging())).pow(n);
        java.math.BigInteger below = java.math.BigInteger.valueOf(16).pow(n);
        java.math.BigInteger both = above.gcd(below);
        return (what == 0 ? above : below).divide(both).longValueExact();
    }

    int seed(int v) {
        int was = now.z;
        now.z = v;
        return was;
    }

    int feed(int bytes, int n) {
        if (n < 1 || n > 4) {
            return finding(BEYOND);
        }
        if (tape.length() + n > 120) {
            return finding(FULL);
        }
        byte[] four = java.nio.ByteBuffer.allocate(4).putInt(bytes).array();
        for (int i = 4 - n; i < 4; i++) {
            tape.append((char) (four[i] & 255));
        }
        return tape.length();
    }

    int wipe() {
        int had = tape.length();
        tape = new StringBuilder();
        return had;
    }

    private static final Pattern TOKEN = Pattern.compile("[a-z]+|[0-9]+|;|[^ ]", Pattern.DOTALL);

    /** Thrown at the first TOKEN that can't stand there. */
    private static final class Fault extends RuntimeException {
        private static final long serialVersionUID = 1L;
    }

    private final List<String> tokens = new ArrayList<>();
    private final List<Integer> places = new ArrayList<>();
    private int token;

    int text() {
        String told = tape.toString();
        wipe();
        tokens.clear();
        places.clear();
        token = 0;
        Matcher m = TOKEN.matcher(told);
        while (m.find()) {
            tokens.add(m.group());
            places.add(m.start());
        }
        tokens.add("");
        places.add(told.length());
        World w = now.copy();
        try {
            int items = 0;
            do {
                item(w);
                items++;
            } while (taken(";"));
            demand(tokens.get(token).isEmpty());
            now = w;
            return items;
        } catch (Fault f) {
            return -1 - places.get(token);
        }
    }

    private void demand(boolean right) {
        if (!right) {
            throw new Fault();
        }
    }

    private boolean taken(String told) {
        if (tokens.get(token).equals(told)) {
            token++;
            return true;
        }
        return false;
    }

    private int number(IntPredicate allowed) {
        String told = tokens.get(token);
        demand(told.matches("[0-9]+"));
        java.math.BigInteger value = new java.math.BigInteger(told);
        demand(value.bitLength() < 31 && value.intValue() <= 9999 && allowed.test(value.intValue()));
        token++;
        return value.intValue();
    }

    private void item(World w) {
        String word = tokens.get(token);
        if (KINDS.contains(word)) {
            demand(w.names.size() < 8);
            token++;
            Name n = new Name();
            n.kind = KINDS.indexOf(word);
            n.duty = number(v -> v <= 99);
            n.wear = taken("worn") ? number(v -> v <= 99) : 0;
            n.foe = taken("against") ? number(v -> v < w.names.size()) : -1;
            w.names.add(n);
        } else if (taken("person")) {
            int p = number(v -> v <= 5);
            w.purse[p] = taken("purse") ? number(v -> true) : w.purse[p];
            w.wish[p] = taken("wishes") ? number(v -> v < w.names.size()) : w.wish[p];
        } else {
            demand(taken("order"));
            w.order = number(v -> v <= 719);
        }
    }

    int hold(int spot, int name) {
        if (spot < 0 || spot > 9 || name < -1 || name >= now.names.size()) {
            return finding(BEYOND);
        }
        now.spots[spot] = name;
        return 1;
    }

    int as(int spot, int kind) {
        if (spot < 0 || spot > 9 || kind < 0 || kind > 6) {
            return finding(BEYOND);
        }
        int name = now.spots[spot];
        if (name < 0) {
            return finding(MISSING);
        }
        List<List<Integer>> kindsOf = List.of(List.of(0), List.of(1, 0), List.of(2, 0), List.of(3, 2, 0),
                List.of(4, 3, 2, 0), List.of(5, 0), List.of(6, 1, 0));
        return kindsOf.get(now.names.get(name).kind).contains(kind) ? name : finding(KIND);
    }

    int sheet(int s, int bits, int n) {
        if (noSheet(s) || !List.of(0, 8, 16, 32).contains(bits)) {
            return finding(BEYOND);
        }
        if (n < 0) {
            return finding(SIZE);
        }
        if (n > 40) {
            return finding(BEYOND);
        }
        sheets[s] = bits == 0 ? null : new long[n];
        bitsOf[s] = bits;
        return bits == 0 ? 0 : n;
    }

    int write(int s, int i, int v) {
        if (noSheet(s)) {
            return finding(BEYOND);
        }
        if (sheets[s] == null) {
            return finding(MISSING);
        }
        if (i < 0 || i >= sheets[s].length) {
            return finding(BEYOND);
        }
        sheets[s][i] = v << (32 - bitsOf[s]) >> (32 - bitsOf[s]);
        return 1;
    }

    int copy(int s, int from, int t, int to, int n) {
        if (noSheet(s) || noSheet(t)) {
            return finding(BEYOND);
        }
        if (sheets[s] == null || sheets[t] == null) {
            return finding(MISSING);
        }
        if (bitsOf[s] != bitsOf[t]) {
            return finding(KIND);
        }
        if (from < 0 || to < 0 || n < 0 || (long) from + n > sheets[s].length || (long) to + n > sheets[t].length) {
            return finding(BEYOND);
        }
        long[] were = sheets[s].clone();
        for (int i = 0; i < n; i++) {
            sheets[t][to + i] = were[from + i];
        }
        return n;
    }

    int load(int s) {
        if (noSheet(s)) {
            return finding(BEYOND);
        }
        if (sheets[s] == null) {
            return finding(MISSING);
        }
        int came = 0;
        for (long v : sheets[s]) {
            if (v < 0 || v > 9999 || came == 6) {
                break;
            }
            now.purse[came++] = (int) v;
        }
        return came;
    }

    int judge(int s) {
        if (noSheet(s)) {
            return finding(BEYOND);
        }
        if (sheets[s] == null) {
            return finding(MISSING);
        }
        int[] drawn = now.draw();
        for (int i = 0; i < sheets[s].length; i++) {
            if (i > 5 || drawn[i] != sheets[s][i]) {
                return i + 1;
            }
        }
        return 0;
    }

    int image() {
        kept = now.copy();
        return 1;
    }

    int undo() {
        if (kept == null) {
            return finding(NONE);
        }
        now = kept.copy();
        return now.day;
    }

    int tear() {
        int was = kept == null ? 0 : 1;
        kept = null;
        return was;
    }

    int count(int what) {
        if (what < 0 || what > 7) {
            return finding(BEYOND);
        }
        int held = (int) Arrays.stream(now.spots).filter(i -> i >= 0).count();
        return new int[] {now.day, now.names.size(), Integer.bitCount(now.hanging()), now.quarrels,
            now.purses(), tape.length(), now.z, held}[what];
    }

    int status(int which) {
        if (which < -1 || which > 6) {
            return finding(BEYOND);
        }
        return which < 0 ? Arrays.stream(found).sum() : found[which];
    }
}
