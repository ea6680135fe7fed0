import java.util.ArrayList;
import java.util.List;

/** "One that answers a finding changes nothing but status()", and nothing changes by what only asks. */
public final class ChangesTest extends Rails {
    private interface Call {
        long on(NameRail x);
    }

    private interface One {
        long on(NameRail x, int v);
    }

    private static final int[] FAR = {Integer.MIN_VALUE, Integer.MIN_VALUE + 1, -1000001, -1000, 1000, 65536, Integer.MAX_VALUE};

    private static int names;
    private static List<Long> untouched;

    public static void main(String[] args) {
        for (int n : new int[] {0, 1, 3, 8}) {
            names = n;
            untouched = whole(ready());
            namesAndPeople();
            days();
            willBe();
            ordersAndPeace();
            paidAndMoths();
            texts();
            spots();
            sheets();
            copies();
            counts();
            asked();
        }
        nothingKept();
        end("what is refused and what is asked changes nothing");
    }

    /** Something of all that an object can hold, with as many NAMES as told. */
    private static NameRail ready() {
        NameRail x = new NameRail();
        for (int i = 0; i < names; i++) {
            x.name((i + 4) % 7, 3 * i + 5);
            x.change(i, 2, 45 - 3 * i);
            x.change(i, 4, i == 0 ? -1 : i - 1);
            x.hold(2 + i, i);
            x.person(i % 6, 1, (5 * i) % names);
        }
        x.change(2, 3, 4);
        x.change(1, 2, 60);
        x.hold(2, -1);
        x.order(411);
        x.seed(77);
        x.person(5, 0, 9999);
        x.image();
        x.go(2);
        x.moths(1);
        x.person(4, 0, 3);
        x.person(3, 0, 0);
        tell(x, 0, 8, 7, 6, 5);
        tell(x, 1, 32, 11, 12, 13, 14, 15, 16);
        tell(x, 2, 16, 21, 22, 23, 24);
        feed(x, "order 5;person 1 purse 9;");
        feed(x, "mothy 7");
        return x;
    }

    /** All that can be seen of an object but status(); it is used up by that. */
    private static List<Long> whole(NameRail x) {
        List<Long> all = new ArrayList<>();
        seen(x, all);
        for (int s = 0; s < 4; s++) {
            all.add((long) x.load(s));
            for (int p = 0; p < 6; p++) {
                all.add((long) x.personOf(p, 0));
            }
            int length = 0;
            while (length < 40 && x.write(s, length, 65536 + 256 + 7) == 1) {
                length++;
            }
            all.add((long) length);
            all.add((long) x.load(s));
            all.add((long) x.personOf(0, 0));
        }
        all.add((long) x.text());
        seen(x, all);
        all.add((long) x.undo());
        seen(x, all);
        return all;
    }

    private static void seen(NameRail x, List<Long> all) {
        for (int what = 0; what < 8; what++) {
            all.add((long) x.count(what));
        }
        for (int what = 1; what < 6; what++) {
            all.add((long) x.now(what));
        }
        for (int i = 0; i < x.count(1); i++) {
            for (int what = 0; what < 5; what++) {
                all.add((long) x.of(i, what));
            }
        }
        for (int p = 0; p < 6; p++) {
            all.add((long) x.personOf(p, 0));
            all.add((long) x.personOf(p, 1));
        }
        for (int spot = 0; spot < 10; spot++) {
            all.add((long) x.as(spot, NAME));
        }
    }

    private static void refused(int finding, Call call) {
        refusedOn(ready(), finding, call);
    }

    private static void refusedOn(NameRail x, int finding, Call call) {
        says("one that answers a finding changes nothing but status()");
        int which = BEYOND - finding;
        int all = x.status(-1);
        int such = x.status(which);
        due(finding, call.on(x));
        due(all + 1, x.status(-1));
        due(such + 1, x.status(which));
        due(1, whole(x).equals(untouched) ? 1 : 0);
    }

    /** Too small and too large by one, and by far: BEYOND. */
    private static void bounds(int least, int most, One call) {
        refused(BEYOND, x -> call.on(x, least - 1));
        refused(BEYOND, x -> call.on(x, most + 1));
        for (int v : FAR) {
            if (v < least || v > most) {
                refused(BEYOND, x -> call.on(x, v));
            }
        }
    }

    private static void namesAndPeople() {
        bounds(0, 6, (x, v) -> x.name(v, 0));
        bounds(0, 99, (x, v) -> x.name(0, v));
        if (names == 8) {
            refused(FULL, x -> x.name(0, 0));
            refused(FULL, x -> x.name(6, 99));
        }
        bounds(0, names - 1, (x, v) -> x.of(v, 0));
        bounds(0, 8, (x, v) -> x.of(0, v));
        bounds(0, names - 1, (x, v) -> x.change(v, 0, 0));
        bounds(0, 4, (x, v) -> x.change(0, v, 0));
        bounds(0, 6, (x, v) -> x.change(0, 0, v));
        bounds(0, 99, (x, v) -> x.change(0, 1, v));
        bounds(0, 99, (x, v) -> x.change(0, 2, v));
        bounds(0, 99999, (x, v) -> x.change(0, 3, v));
        bounds(-1, names - 1, (x, v) -> x.change(0, 4, v));
        for (int i = 0; i < names; i++) {
            int itself = i;
            refused(BEYOND, x -> x.change(itself, 4, itself));
        }
        bounds(0, 5, (x, v) -> x.person(v, 0, 0));
        bounds(0, 5, (x, v) -> x.person(v, 1, -1));
        bounds(0, 1, (x, v) -> x.person(0, v, 0));
        bounds(0, 9999, (x, v) -> x.person(0, 0, v));
        bounds(-1, names - 1, (x, v) -> x.person(0, 1, v));
        bounds(0, 5, (x, v) -> x.personOf(v, 0));
        bounds(0, 2, (x, v) -> x.personOf(0, v));
        bounds(0, 719, (x, v) -> x.order(v));
        bounds(0, 719, (x, v) -> x.at(v, 0));
        bounds(0, 5, (x, v) -> x.at(0, v));
    }

    private static void days() {
        bounds(1, 60, (x, v) -> x.go(v));
        bounds(0, 5, (x, v) -> x.now(v));
        bounds(0, names - 1, (x, v) -> x.mend(v, 0, 0));
        bounds(0, 5, (x, v) -> x.mend(0, v, 0));
        bounds(0, 99, (x, v) -> x.mend(0, 0, v));
        // BEYOND is asked ahead of STATE.
        refused(BEYOND, x -> x.mend(names, 4, 99));
        refused(BEYOND, x -> x.mend(0, 4, 100));
        if (names > 0) {
            refused(STATE, x -> x.mend(0, 4, x.personOf(4, 0) + 1));
            refused(STATE, x -> x.mend(0, 4, 99));
        }
    }

    private static void willBe() {
        bounds(0, 5, (x, v) -> x.wears(v));
        bounds(0, 5, (x, v) -> x.ahead(v, 0));
        bounds(0, 100, (x, v) -> x.ahead(0, v));
        bounds(0, names - 1, (x, v) -> x.owes(v, 0));
        bounds(0, 100, (x, v) -> x.owes(0, v));
        bounds(0, names - 1, (x, v) -> x.lasts(v));
        bounds(0, 5, (x, v) -> x.broke(v));
        refused(NONE, x -> x.broke(5));
        bounds(0, 5, (x, v) -> x.often(v, 0, 0));
        bounds(0, names - 1, (x, v) -> x.often(0, v, 0));
        bounds(0, 100, (x, v) -> x.often(0, 0, v));
        bounds(0, names - 1, (x, v) -> x.kindFor(v));
    }

    private static void ordersAndPeace() {
        bounds(0, 5, (x, v) -> x.orderFor(v, 0));
        bounds(0, names - 1, (x, v) -> x.orderFor(0, v));
        bounds(0, 5, (x, v) -> x.orders(v, 0));
        bounds(0, names - 1, (x, v) -> x.orders(0, v));
        if (names > 1) {
            refused(NONE, x -> x.orderFor(0, 1));
        }
        bounds(0, 5, (x, v) -> x.best(v, 0));
        bounds(0, 10, (x, v) -> x.best(0, v));
        bounds(0, 5, (x, v) -> x.wishFor(v, 0));
        bounds(0, 60, (x, v) -> x.wishFor(0, v));
        bounds(0, 8, (x, v) -> x.peaceful(v));
        // BEYOND is asked ahead of NONE.
        bounds(0, 60, (x, v) -> x.mendFor(v));
        bounds(0, 60, (x, v) -> x.without(v));
        if (names == 0) {
            refused(NONE, x -> x.mendFor(0));
            refused(NONE, x -> x.mendFor(60));
            refused(NONE, x -> x.without(0));
            refused(NONE, x -> x.without(60));
        }
    }

    private static void paidAndMoths() {
        bounds(0, 3, (x, v) -> x.fits(v, 0));
        bounds(0, 3, (x, v) -> x.fits(v, 6));
        bounds(0, 5, (x, v) -> x.fits(0, v));
        refused(MISSING, x -> x.fits(3, 0));
        refused(MISSING, x -> x.fits(3, 6));
        bounds(0, 3, (x, v) -> x.wish(v, 0));
        bounds(0, 3, (x, v) -> x.wish(v, 6));
        bounds(0, 5, (x, v) -> x.wish(0, v));
        refused(MISSING, x -> x.wish(3, 0));
        refused(MISSING, x -> x.wish(3, -1));
        refused(NONE, x -> x.wish(1, 0));
        refused(BEYOND, x -> x.wish(1, 6));
        bounds(1, 20, (x, v) -> x.moths(v));
        bounds(0, 14, (x, v) -> x.odds(v, 0));
        bounds(0, 14, (x, v) -> x.odds(v, 1));
        bounds(0, 1, (x, v) -> x.odds(0, v));
    }

    private static void texts() {
        bounds(1, 4, (x, v) -> x.feed(0x20202020, v));
        List<Long> before = untouched;
        untouched = whole(fullTape());
        refusedOn(fullTape(), FULL, x -> x.feed(0x20202020, 4));
        refusedOn(fullTape(), FULL, x -> x.feed(0x20202020, 2));
        refusedOn(fullTape(), BEYOND, x -> x.feed(0x20202020, 0));
        refusedOn(fullTape(), BEYOND, x -> x.feed(0x20202020, 5));
        untouched = before;
    }

    /** One byte is free. */
    private static NameRail fullTape() {
        NameRail x = ready();
        x.feed(0x20202020, 3);
        for (int had = x.count(5); had < 119; had++) {
            x.feed(' ', 1);
        }
        return x;
    }

    private static void spots() {
        bounds(0, 9, (x, v) -> x.hold(v, -1));
        bounds(-1, names - 1, (x, v) -> x.hold(0, v));
        bounds(0, 9, (x, v) -> x.as(v, 0));
        bounds(0, 6, (x, v) -> x.as(0, v));
        bounds(0, 6, (x, v) -> x.as(3, v));
        refused(MISSING, x -> x.as(0, 0));
        refused(MISSING, x -> x.as(2, 6));
        if (names > 1) {
            refused(KIND, x -> x.as(3, TORN));
        }
    }

    private static void sheets() {
        bounds(0, 3, (x, v) -> x.sheet(v, 8, 1));
        bounds(0, 3, (x, v) -> x.sheet(v, 8, -1));
        bounds(0, 3, (x, v) -> x.sheet(v, 0, 41));
        for (int bits : new int[] {-8, -1, 1, 7, 9, 15, 17, 24, 31, 33, 64, 256, Integer.MIN_VALUE, Integer.MAX_VALUE}) {
            refused(BEYOND, x -> x.sheet(0, bits, 1));
            refused(BEYOND, x -> x.sheet(0, bits, -1));
            refused(BEYOND, x -> x.sheet(0, bits, 41));
        }
        for (int bits : new int[] {0, 8, 16, 32}) {
            for (int n : new int[] {-1, -40, Integer.MIN_VALUE}) {
                refused(SIZE, x -> x.sheet(0, bits, n));
            }
            for (int n : new int[] {41, 1000, Integer.MAX_VALUE}) {
                refused(BEYOND, x -> x.sheet(0, bits, n));
            }
        }
        bounds(0, 3, (x, v) -> x.write(v, 0, 1));
        bounds(0, 2, (x, v) -> x.write(0, v, 1));
        bounds(0, 5, (x, v) -> x.write(1, v, 1));
        refused(MISSING, x -> x.write(3, 0, 1));
        refused(MISSING, x -> x.write(3, -1, 1));
        bounds(0, 3, (x, v) -> x.load(v));
        refused(MISSING, x -> x.load(3));
        bounds(0, 3, (x, v) -> x.judge(v));
        refused(MISSING, x -> x.judge(3));
    }

    private static void copies() {
        bounds(0, 3, (x, v) -> x.copy(v, 0, 0, 0, 1));
        bounds(0, 3, (x, v) -> x.copy(0, 0, v, 0, 1));
        // No such sheet is asked ahead of a MISSING one, that ahead of the bits, those ahead of the numbers.
        bounds(0, 3, (x, v) -> x.copy(v, 0, 3, 0, 1));
        bounds(0, 3, (x, v) -> x.copy(3, 0, v, 0, 1));
        refused(MISSING, x -> x.copy(0, 0, 3, 0, 1));
        refused(MISSING, x -> x.copy(3, 0, 0, 0, 1));
        refused(MISSING, x -> x.copy(3, 0, 3, 0, 1));
        refused(MISSING, x -> x.copy(0, -1, 3, 0, 1));
        refused(KIND, x -> x.copy(0, 0, 1, 0, 1));
        refused(KIND, x -> x.copy(1, 0, 2, 0, 1));
        refused(KIND, x -> x.copy(2, 0, 0, 0, 0));
        refused(KIND, x -> x.copy(0, -1, 1, 0, 1));
        refused(KIND, x -> x.copy(0, 0, 1, 9, 1));
        refused(KIND, x -> x.copy(0, 0, 1, 0, -1));
        bounds(0, 5, (x, v) -> x.copy(1, v, 1, 0, 1));
        bounds(0, 5, (x, v) -> x.copy(1, 0, 1, v, 1));
        bounds(0, 6, (x, v) -> x.copy(1, 0, 1, 0, v));
        bounds(0, 2, (x, v) -> x.copy(1, 4, 1, 0, v));
        bounds(0, 2, (x, v) -> x.copy(1, 0, 1, 4, v));
        bounds(0, 6, (x, v) -> x.copy(1, v, 1, 0, 0));
        bounds(0, 6, (x, v) -> x.copy(1, 0, 1, v, 0));
    }

    private static void counts() {
        bounds(0, 7, (x, v) -> x.count(v));
        bounds(-1, 6, (x, v) -> x.status(v));
    }

    private static void nothingKept() {
        names = 3;
        NameRail never = new NameRail();
        untouched = whole(new NameRail());
        refusedOn(never, NONE, x -> x.undo());
        NameRail torn = ready();
        torn.tear();
        NameRail alike = ready();
        alike.tear();
        untouched = whole(alike);
        refusedOn(torn, NONE, x -> x.undo());
    }

    private static void asking(Call call) {
        says("what will be (nothing changes)");
        NameRail x = ready();
        int all = x.status(-1);
        due(1, call.on(x) < -1000000 ? 0 : 1);
        due(all, x.status(-1));
        due(1, whole(x).equals(untouched) ? 1 : 0);
    }

    /** Who draws a NAME, if anybody does. */
    private static int drawer(NameRail x) {
        int p = 0;
        while (p < 5 && x.wears(p) < 0) {
            p++;
        }
        return p;
    }

    private static void asked() {
        if (names > 0) {
            asking(x -> x.owes(0, 100));
            asking(x -> x.lasts(0));
            asking(x -> x.often(4, 0, 100));
            asking(x -> x.kindFor(names - 1));
            asking(x -> x.orders(2, 0));
            asking(x -> x.orderFor(drawer(x), x.wears(drawer(x))));
            asking(x -> x.broke(3));
            asking(x -> x.mendFor(60));
            asking(x -> x.without(60));
            asking(x -> x.of(0, 8));
        }
        asking(x -> x.wears(0));
        asking(x -> x.ahead(0, 100));
        asking(x -> x.cheapest());
        asking(x -> x.calmest());
        asking(x -> x.best(0, 10));
        asking(x -> x.wishFor(4, 60));
        asking(x -> x.peace());
        asking(x -> x.peaceful(2));
        asking(x -> x.groups());
        asking(x -> x.fits(0, 3));
        asking(x -> x.odds(14, 1));
        asking(x -> x.at(719, 0));
        asking(x -> x.judge(0));
        asking(x -> x.now(1));
        asking(x -> x.personOf(3, 2));
        asking(x -> x.count(7));
    }
}
