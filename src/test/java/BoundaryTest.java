/** Each sentence of the document that names a boundary, with the answers on both sides of it: Terms 1 and 2, promises 1 to 34. */
public final class BoundaryTest extends Rails {
    public static void main(String[] args) {
        findings();
        atFirst();
        names();
        dues();
        fades();
        hangs();
        quarrels();
        changes();
        people();
        theOrder();
        drawing();
        paying();
        fading();
        quarrelling();
        going();
        mending();
        ahead();
        lasting();
        kindsAhead();
        ordersFor();
        least();
        wishesFor();
        peace();
        groups();
        mendsFor();
        fits();
        draws();
        moths();
        odds();
        end("all boundaries of days, names and people hold");
    }

    private static void findings() {
        says("LOW is -1000001; LOW BEYOND, LOW - 1 FULL, .. LOW - 6 SIZE (in longs, too)");
        NameRail x = railOf(8, 1);
        due(-1000001L, x.odds(15, 0));
        due(-1000001L, x.odds(0, 2));
        due(-1000001, x.go(0));
        due(-1000002, x.name(0, 0));
        x.hold(0, 0);
        due(-1000003, x.as(0, TORN));
        due(-1000004, x.undo());
        x.person(0, 0, 0);
        due(-1000005, x.mend(0, 0, 1));
        due(-1000006, x.load(0));
        due(-1000007, x.sheet(0, 8, -1));
        says("status: 0 to 6: BEYOND to SIZE; -1: all");
        int[] such = {3, 1, 1, 1, 1, 1, 1};
        for (int which = 0; which < 7; which++) {
            due(such[which], x.status(which));
        }
        due(9, x.status(-1));
        says("What seed() and count(6) tell, z, may be any int: that is no finding");
        int was = 1;
        for (int z : new int[] {BEYOND, FULL, KIND, NONE, STATE, MISSING, SIZE, Integer.MIN_VALUE, Integer.MAX_VALUE, 0, -1}) {
            due(was, x.seed(z));
            due(z, x.count(6));
            was = z;
        }
        due(9, x.status(-1));
        says("BEYOND (counted from then on): another one");
        due(BEYOND, x.status(7));
        due(4, x.status(0));
        due(BEYOND, x.status(-2));
        due(5, x.status(0));
        due(11, x.status(-1));
    }

    private static void atFirst() {
        says("All as at first; no NAMES; THE TAPE is empty, no image is kept");
        NameRail x = new NameRail();
        due(0, x.count(1));
        due(BEYOND, x.of(0, 0));
        due(0, x.count(5));
        due(0, x.wipe());
        due(0, x.tear());
        due(NONE, x.undo());
        due(0, x.now(5));
        due(1, x.seed(1));
        for (int p = 0; p < 6; p++) {
            due(100, x.personOf(p, 0));
            due(-1, x.personOf(p, 1));
        }
        for (int spot = 0; spot < 10; spot++) {
            due(MISSING, x.as(spot, 0));
        }
        for (int s = 0; s < 4; s++) {
            due(MISSING, x.judge(s));
            due(MISSING, x.write(s, 0, 0));
        }
        says("A new object: nothing of another one is in it");
        NameRail other = railOf(8, 9);
        other.go(60);
        other.sheet(0, 8, 3);
        other.feed(0, 4);
        other.image();
        NameRail y = new NameRail();
        for (int what = 0; what < 8; what++) {
            due(what == 4 ? 600 : what == 6 ? 1 : 0, y.count(what));
        }
        due(MISSING, y.load(0));
        due(0, y.tear());
        due(0, y.status(0));
    }

    private static void names() {
        says("NAMES 0, 1, .. (at most 8)");
        NameRail x = new NameRail();
        for (int i = 0; i < 8; i++) {
            due(i, x.count(1));
            due(BEYOND, x.of(i, 0));
            due(i, x.name(i % 7, 99 * (i % 2)));
            due(i % 7, x.of(i, 0));
            due(99 * (i % 2), x.of(i, 1));
        }
        due(FULL, x.name(0, 0));
        due(8, x.count(1));
        due(BEYOND, x.of(8, 0));
        says("a DUTY (0 to 99), WEAR (0 at first), DEBT (0 at first), a FOE (none, at first)");
        for (int i = 0; i < 8; i++) {
            due(0, x.of(i, 2));
            due(0, x.of(i, 3));
            due(-1, x.of(i, 4));
        }
        says("undo(): a new NAME behind it is as at first");
        NameRail y = new NameRail();
        y.image();
        y.name(TORN, 5);
        y.change(0, 2, 30);
        y.change(0, 3, 40);
        y.name(NAME, 1);
        y.change(0, 4, 1);
        y.undo();
        due(0, y.name(NAME, 6));
        due(0, y.of(0, 2));
        due(0, y.of(0, 3));
        due(-1, y.of(0, 4));
        due(0, y.of(0, 0));
    }

    private static int dueOf(int kind, int duty, int wear, int debt) {
        NameRail x = rail(kind, duty);
        x.change(0, 2, wear);
        x.change(0, 3, debt);
        return x.of(0, 5);
    }

    private static void dues() {
        says("DUE: NAME: DUTY");
        due(0, dueOf(NAME, 0, 99, 99999));
        due(99, dueOf(NAME, 99, 99, 99999));
        says("STRETCHED: as a NAME, and a tenth (cut) of WEAR");
        int[][] tenths = {{0, 0}, {9, 0}, {10, 1}, {19, 1}, {20, 2}, {49, 4}, {50, 5}, {98, 9}, {99, 9}};
        for (int[] t : tenths) {
            due(t[1], dueOf(STRETCHED, 0, t[0], 0));
            due(99 + t[1], dueOf(STRETCHED, 99, t[0], 5));
            due(5 + t[1], dueOf(TORN, 0, t[0], 0));
            due(7, dueOf(NAME, 7, t[0], 0));
            due(14, dueOf(DOUBLE, 7, t[0], 0));
            due(3, dueOf(MOTHY, 7, t[0], 0));
        }
        says("TORN: as STRETCHED, and 5");
        due(113, dueOf(TORN, 99, 99, 99999));
        says("DOUBLE: twice that of a NAME");
        due(0, dueOf(DOUBLE, 0, 0, 0));
        due(198, dueOf(DOUBLE, 99, 99, 99999));
        says("LEFT: as DOUBLE, but 0, if there is a DEBT");
        due(198, dueOf(LEFT, 99, 99, 0));
        due(0, dueOf(LEFT, 99, 0, 1));
        due(0, dueOf(LEFT, 99, 0, 99999));
        says("NOBODYS: half (cut) that of LEFT");
        due(99, dueOf(NOBODYS, 99, 0, 0));
        due(1, dueOf(NOBODYS, 1, 99, 0));
        due(0, dueOf(NOBODYS, 99, 0, 1));
        says("MOTHY: half (cut) that of a NAME");
        int[][] halves = {{0, 0}, {1, 0}, {2, 1}, {3, 1}, {98, 49}, {99, 49}};
        for (int[] h : halves) {
            due(h[1], dueOf(MOTHY, h[0], 99, 5));
        }
    }

    private static void fades() {
        says("FADES: NAME: 1. STRETCHED: and 1. TORN: twice. DOUBLE, LEFT, NOBODYS: as a NAME. MOTHY: 3");
        int[] fades = {1, 2, 1, 1, 1, 3, 4};
        for (int k = 0; k < 7; k++) {
            for (int wear : new int[] {0, 46, 49}) {
                NameRail x = rail(k, 9);
                x.change(0, 2, wear);
                due(fades[k], x.of(0, 6));
                x.go(1);
                due(wear + fades[k], x.of(0, 2));
            }
        }
    }

    private static void hangs() {
        says("A NAME HANGS on the rail, if its WEAR is below 50");
        NameRail x = railOf(8, 1);
        for (int wear : new int[] {0, 49, 50, 99}) {
            int hangs = wear < 50 ? 1 : 0;
            x.change(7, 2, wear);
            due(hangs, x.of(7, 7));
            due(127 + 128 * hangs, x.now(1));
            due(7 + hangs, x.count(2));
        }
        says("now: NAMES that HANG, as a set");
        for (int i = 0; i < 8; i++) {
            x.change(i, 2, 50);
        }
        due(0, x.now(1));
        due(0, x.count(2));
        x.change(7, 2, 0);
        due(128, x.now(1));
        x.change(0, 2, 0);
        due(129, x.now(1));
    }

    private static void quarrels() {
        says("a quarrel is both ways, whichever tells it");
        NameRail x = railOf(8, 1);
        x.change(0, 4, 7);
        due(128, x.of(0, 8));
        due(1, x.of(7, 8));
        due(7, x.of(0, 4));
        due(-1, x.of(7, 4));
        x.change(7, 4, 0);
        due(128, x.of(0, 8));
        due(1, x.of(7, 8));
        x.change(0, 4, -1);
        due(128, x.of(0, 8));
        due(1, x.of(7, 8));
        says("NAMES with which it quarrels, as a set");
        for (int i = 1; i < 8; i++) {
            x.change(i, 4, 0);
        }
        x.change(0, 4, 3);
        due(254, x.of(0, 8));
        due(1, x.of(3, 8));
        x.change(3, 2, 99);
        due(254, x.of(0, 8));
    }

    private static void changes() {
        says("change: KIND, DUTY, WEAR, DEBT, FOE becomes v: what it was");
        NameRail x = railOf(2, 50);
        int[][] ends = {{0, 6, 0}, {0, 99, 50}, {0, 99, 0}, {0, 99999, 0}, {-1, 1, -1}};
        for (int what = 0; what < 5; what++) {
            int was = ends[what][2];
            for (int v : new int[] {ends[what][1], ends[what][0], ends[what][0], ends[what][1]}) {
                due(was, x.change(0, what, v));
                due(v, x.of(0, what));
                was = v;
            }
        }
        says("FOE (4: -1 none; not itself)");
        due(BEYOND, x.change(0, 4, 0));
        due(BEYOND, x.change(1, 4, 1));
        due(BEYOND, x.change(0, 4, 2));
        due(BEYOND, x.change(0, 4, -2));
        due(1, x.of(0, 4));
        due(-1, x.change(1, 4, 0));
        says("DUTY stays when KIND changes");
        due(99, x.of(0, 1));
    }

    private static void people() {
        says("PEOPLE 0 to 5, all there: a PURSE (0 to 9999), a WISH (a NAME, or -1: none)");
        NameRail x = railOf(8, 1);
        for (int p = 0; p < 6; p++) {
            due(100, x.person(p, 0, 0));
            due(0, x.person(p, 0, 9999));
            due(BEYOND, x.person(p, 0, 10000));
            due(BEYOND, x.person(p, 0, -1));
            due(9999, x.personOf(p, 0));
            due(-1, x.person(p, 1, 7));
            due(7, x.person(p, 1, 0));
            due(BEYOND, x.person(p, 1, 8));
            due(BEYOND, x.person(p, 1, -2));
            due(0, x.person(p, 1, -1));
            due(-1, x.personOf(p, 1));
        }
        due(59994, x.now(2));
        due(59994, x.count(4));
        says("WISH: a NAME: there are none yet");
        due(BEYOND, new NameRail().person(0, 1, 0));
        due(-1, new NameRail().person(0, 1, -1));
        says("a WISH may tell a NAME that doesn't HANG");
        x.change(7, 2, 99);
        due(-1, x.person(0, 1, 7));
        due(7, x.personOf(0, 1));
    }

    private static void orderIs(NameRail x, int order, int told) {
        int rest = told;
        for (int place = 5; place >= 0; place--) {
            due(rest % 10, x.at(order, place));
            rest /= 10;
        }
    }

    private static void theOrder() {
        says("THE ORDER: by the first, then the second, and so on (0: 0, 1, .., 5; 719: 5, 4, .., 0)");
        NameRail x = new NameRail();
        orderIs(x, 0, 12345);
        orderIs(x, 1, 12354);
        orderIs(x, 2, 12435);
        orderIs(x, 5, 12543);
        orderIs(x, 6, 13245);
        orderIs(x, 23, 15432);
        orderIs(x, 24, 21345);
        orderIs(x, 119, 54321);
        orderIs(x, 120, 102345);
        orderIs(x, 239, 154320);
        orderIs(x, 240, 201345);
        orderIs(x, 599, 453210);
        orderIs(x, 600, 501234);
        orderIs(x, 718, 543201);
        orderIs(x, 719, 543210);
        due(0, x.now(5));
        says("at which place of THE ORDER (0 to 5)");
        for (int order : new int[] {0, 1, 119, 120, 719}) {
            x.order(order);
            for (int place = 0; place < 6; place++) {
                due(place, x.personOf(x.at(order, place), 2));
            }
        }
        says("order: THE ORDER becomes v: what it was");
        due(719, x.order(0));
        due(0, x.order(719));
        due(719, x.order(719));
        due(BEYOND, x.order(720));
        due(BEYOND, x.order(-1));
        due(719, x.now(5));
    }

    private static void wearsAll(NameRail x, int... names) {
        for (int p = 0; p < 6; p++) {
            due(names[p], x.wears(p));
        }
    }

    private static void drawing() {
        says("each draws: else the least NAME that HANGS and isn't drawn yet, if there is one");
        wearsAll(new NameRail(), -1, -1, -1, -1, -1, -1);
        wearsAll(railOf(1, 1), 0, -1, -1, -1, -1, -1);
        wearsAll(railOf(6, 1), 0, 1, 2, 3, 4, 5);
        wearsAll(railOf(8, 1), 0, 1, 2, 3, 4, 5);
        NameRail x = railOf(8, 1);
        x.change(0, 2, 50);
        x.change(3, 2, 50);
        wearsAll(x, 1, 2, 4, 5, 6, 7);
        x.change(7, 2, 50);
        wearsAll(x, 1, 2, 4, 5, 6, -1);
        says("in THE ORDER");
        x.order(719);
        wearsAll(x, -1, 6, 5, 4, 2, 1);
        says("its WISH, if that HANGS and isn't drawn yet");
        NameRail y = railOf(8, 1);
        y.person(1, 1, 7);
        y.person(2, 1, 7);
        wearsAll(y, 0, 7, 1, 2, 3, 4);
        y.change(7, 2, 49);
        wearsAll(y, 0, 7, 1, 2, 3, 4);
        y.change(7, 2, 50);
        wearsAll(y, 0, 1, 2, 3, 4, 5);
        y.person(1, 1, 0);
        wearsAll(y, 0, 1, 2, 3, 4, 5);
        y.person(0, 1, 1);
        wearsAll(y, 1, 0, 2, 3, 4, 5);
        y.order(120);
        wearsAll(y, 1, 0, 2, 3, 4, 5);
        y.person(0, 1, -1);
        y.person(1, 1, -1);
        wearsAll(y, 1, 0, 2, 3, 4, 5);
    }

    private static void paying() {
        says("pays its DUE (and no more than its PURSE has); what lacks is more DEBT of the NAME");
        int[][] rows = {{10, 0, 0}, {11, 1, 0}, {9, 0, 1}, {1, 0, 9}, {0, 0, 10}, {9999, 9989, 0}};
        for (int[] r : rows) {
            NameRail x = rail(NAME, 10);
            x.person(0, 0, r[0]);
            due(500 + r[1], x.go(1));
            due(r[1], x.personOf(0, 0));
            due(r[2], x.of(0, 3));
        }
        says("more DEBT of the NAME (99999 at most)");
        int[][] debts = {{99989, 99999}, {99990, 99999}, {99988, 99998}, {99999, 99999}, {5, 15}};
        for (int[] d : debts) {
            NameRail x = rail(NAME, 10);
            x.person(0, 0, 0);
            x.change(0, 3, d[0]);
            x.go(1);
            due(d[1], x.of(0, 3));
            due(d[1], x.now(3));
        }
        says("DEBT isn't paid off by a full PURSE");
        NameRail rich = rail(NAME, 10);
        rich.change(0, 3, 7);
        rich.go(2);
        due(7, rich.of(0, 3));
        due(80, rich.personOf(0, 0));
        says("LEFT: 0, if there is a DEBT: paid ahead of its own DEBT");
        NameRail left = rail(LEFT, 30);
        due(540, left.go(1));
        due(500, left.go(1));
        due(20, left.of(0, 3));
        left.person(0, 0, 100);
        due(600, left.go(1));
        due(20, left.of(0, 3));
        says("who draws nothing pays nothing");
        NameRail none = rail(NAME, 10);
        none.change(0, 2, 50);
        due(600, none.go(60));
        due(600, new NameRail().go(60));
    }

    private static void fading() {
        says("Then each NAME that was drawn FADES: behind the paying");
        NameRail x = rail(STRETCHED, 0);
        x.change(0, 2, 9);
        due(600, x.go(1));
        due(11, x.of(0, 2));
        due(599, x.go(1));
        says("each NAME that was drawn: no other");
        NameRail y = railOf(8, 0);
        y.go(3);
        for (int i = 0; i < 8; i++) {
            due(i < 6 ? 3 : 0, y.of(i, 2));
        }
        says("HANGS, if its WEAR is below 50: the last DAY of a NAME");
        NameRail z = rail(TORN, 0, NAME, 0);
        z.change(0, 2, 49);
        z.change(1, 2, 50);
        z.go(1);
        due(53, z.of(0, 2));
        z.go(60);
        due(53, z.of(0, 2));
        due(50, z.of(1, 2));
    }

    private static void quarrelling() {
        says("QUARRELS are more by how many pairs of drawn NAMES quarrel");
        NameRail x = railOf(8, 0);
        x.go(1);
        due(0, x.now(4));
        x.change(0, 4, 5);
        x.go(1);
        due(1, x.now(4));
        x.change(5, 4, 0);
        x.go(1);
        due(2, x.now(4));
        // 6 and 7 aren't drawn.
        x.change(0, 4, 6);
        x.change(5, 4, 7);
        x.change(6, 4, 7);
        x.go(1);
        due(2, x.now(4));
        for (int i = 0; i < 6; i++) {
            x.change(i, 4, (i + 1) % 6);
        }
        x.go(1);
        due(8, x.now(4));
        due(8, x.count(3));
        x.change(0, 2, 50);
        x.change(1, 2, 50);
        x.change(2, 2, 50);
        // 3, 4, 5, 6, 7 are left: 3 and 4, 4 and 5, 6 and 7; 5 tells 0.
        x.go(1);
        due(11, x.now(4));
    }

    private static void going() {
        says("go: n DAYS (1 to 60): PURSES of all together then");
        NameRail x = rail(NAME, 1);
        due(599, x.go(1));
        due(1, x.now(0));
        due(550, x.go(60));
        due(61, x.now(0));
        due(61, x.count(0));
        due(BEYOND, x.go(61));
        due(BEYOND, x.go(0));
        due(BEYOND, x.go(-1));
        due(61, x.now(0));
    }

    private static void mending() {
        says("mended for m (0 to 99) of the PURSE: WEAR is as much less (0 at least): what it is then");
        int[][] rows = {{50, 0, 50}, {50, 1, 49}, {50, 49, 1}, {50, 50, 0}, {50, 51, 0}, {99, 99, 0}, {0, 99, 0}, {0, 0, 0}};
        for (int[] r : rows) {
            NameRail x = rail(NAME, 1);
            x.change(0, 2, r[0]);
            due(r[2], x.mend(0, 5, r[1]));
            due(r[2], x.of(0, 2));
            due(100 - r[1], x.personOf(5, 0));
        }
        says("STATE: the PURSE has less");
        NameRail x = rail(NAME, 1);
        x.change(0, 2, 99);
        x.person(0, 0, 10);
        due(STATE, x.mend(0, 0, 11));
        due(99, x.of(0, 2));
        due(89, x.mend(0, 0, 10));
        due(0, x.personOf(0, 0));
        due(STATE, x.mend(0, 0, 1));
        due(89, x.mend(0, 0, 0));
        due(BEYOND, x.mend(0, 0, 100));
    }

    private static void ahead() {
        says("ahead: PURSE of one behind n (0 to 100) DAYS");
        NameRail x = rail(NAME, 2, NAME, 0, NAME, 0, NAME, 0, NAME, 0, NAME, 0, NAME, 0, NAME, 1);
        due(100, x.ahead(0, 0));
        due(98, x.ahead(0, 1));
        due(2, x.ahead(0, 49));
        due(0, x.ahead(0, 50));
        due(0, x.ahead(0, 100));
        due(100, x.ahead(1, 50));
        due(99, x.ahead(1, 51));
        due(51, x.ahead(1, 99));
        due(50, x.ahead(1, 100));
        due(BEYOND, x.ahead(1, 101));
        says("owes: DEBT of a NAME behind n (0 to 100) DAYS");
        x.person(0, 0, 4);
        due(0, x.owes(0, 0));
        due(0, x.owes(0, 2));
        due(2, x.owes(0, 3));
        due(96, x.owes(0, 100));
        x.change(0, 3, 99998);
        due(99998, x.owes(0, 0));
        due(99998, x.owes(0, 2));
        due(99999, x.owes(0, 3));
        due(99999, x.owes(0, 100));
        x.person(1, 0, 3);
        due(46, x.owes(7, 99));
        due(47, x.owes(7, 100));
        due(BEYOND, x.owes(7, 101));
        says("often: How often one draws a NAME in n (0 to 100) DAYS");
        due(0, x.often(0, 0, 0));
        due(1, x.often(0, 0, 1));
        due(50, x.often(0, 0, 50));
        due(50, x.often(0, 0, 100));
        due(0, x.often(0, 6, 50));
        due(1, x.often(0, 6, 51));
        due(49, x.often(1, 7, 99));
        due(50, x.often(1, 7, 100));
        due(0, x.often(5, 7, 100));
        due(BEYOND, x.often(1, 7, 101));
        due(0, x.now(0));
    }

    private static void lasting() {
        says("lasts: Behind how many DAYS (0 to 100, the fewest) a NAME doesn't HANG");
        int[][] rows = {{99, 0}, {50, 0}, {49, 1}, {48, 2}, {1, 49}, {0, 50}};
        for (int[] r : rows) {
            NameRail x = rail(NAME, 0);
            x.change(0, 2, r[0]);
            due(r[1], x.lasts(0));
            x.change(0, 0, TORN);
            due((50 - Math.min(50, r[0]) + 3) / 4, x.lasts(0));
        }
        NameRail x = railOf(8, 0);
        due(100, x.lasts(7));
        x.change(7, 2, 1);
        due(99, x.lasts(7));
        says("broke: Behind how many DAYS (0 to 100, the fewest) PURSE of one is 0. NONE");
        NameRail y = rail(NAME, 1, NAME, 0, NAME, 0, NAME, 0, NAME, 0, NAME, 0, NAME, 1);
        y.person(0, 0, 99);
        due(99, y.broke(0));
        y.person(0, 0, 100);
        due(100, y.broke(0));
        y.person(0, 0, 101);
        due(NONE, y.broke(0));
        y.person(0, 0, 1);
        due(1, y.broke(0));
        y.person(0, 0, 0);
        due(0, y.broke(0));
        due(NONE, y.broke(1));
        y.change(0, 1, 3);
        y.person(0, 0, 4);
        due(2, y.broke(0));
    }

    private static void kindsAhead() {
        says("kindFor: The KIND as which a NAME HANGS longest (100 DAYS, if it does by then); the least number counts");
        for (int k = 0; k < 7; k++) {
            NameRail x = rail(k, 9);
            due(NAME, x.kindFor(0));
            x.change(0, 2, 49);
            due(NAME, x.kindFor(0));
            x.change(0, 2, 50);
            due(NAME, x.kindFor(0));
            due(k, x.of(0, 0));
        }
        NameRail last = railOf(8, 0);
        last.change(7, 0, TORN);
        due(NAME, last.kindFor(7));
    }

    private static void ordersFor() {
        says("orderFor: The least order by which one draws a NAME now. NONE");
        NameRail x = railOf(6, 1);
        due(0, x.orderFor(0, 0));
        due(120, x.orderFor(0, 1));
        due(0, x.orderFor(5, 5));
        due(0, x.orderFor(3, 3));
        // 0 stands last: 1, 2, 3, 4, 5, 0.
        due(orderOf("123450"), x.orderFor(0, 5));
        due(orderOf("501234"), x.orderFor(5, 0));
        x.change(5, 2, 50);
        due(NONE, x.orderFor(0, 5));
        due(0, x.orders(0, 5));
        says("orders: How many orders do so");
        due(120, x.orders(0, 0));
        NameRail y = railOf(8, 1);
        y.person(4, 1, 7);
        due(720, y.orders(4, 7));
        due(0, y.orderFor(4, 7));
        due(0, y.orders(4, 0));
        due(NONE, y.orderFor(4, 0));
        due(0, y.orders(3, 6));
        y.person(3, 1, 7);
        due(360, y.orders(4, 7));
        due(360, y.orders(3, 7));
        due(orderOf("012435"), y.orderFor(4, 7));
        due(0, y.orderFor(3, 7));
    }

    private static int orderOf(String told) {
        for (int o = 0; o < 720; o++) {
            NameRail y = new NameRail();
            boolean same = true;
            for (int place = 0; place < 6; place++) {
                same &= y.at(o, place) == told.charAt(place) - '0';
            }
            if (same) {
                return o;
            }
        }
        return -1;
    }

    private static void least() {
        says("of several that would do the least number counts: cheapest, calmest");
        NameRail x = rail(NAME, 9, NAME, 1, DOUBLE, 5, TORN, 0, NAME, 2, NAME, 3, NAME, 0, NAME, 0);
        x.order(719);
        x.change(0, 4, 1);
        due(0, x.cheapest());
        due(0, x.calmest());
        x.person(0, 1, 6);
        x.person(1, 1, 1);
        due(0, x.cheapest());
        due(0, x.calmest());
        says("best: The least order by which PURSE of one is greatest behind n (0 to 10) DAYS");
        NameRail y = rail(NAME, 6, NAME, 5, NAME, 4, NAME, 3, NAME, 2, NAME, 1);
        due(0, y.best(0, 0));
        due(orderOf("123450"), y.best(0, 1));
        due(orderOf("023451"), y.best(1, 1));
        due(0, y.best(5, 1));
        due(orderOf("123450"), y.best(0, 10));
        due(BEYOND, y.best(0, 11));
        due(BEYOND, y.best(0, -1));
        // NAME 0 is worn out behind 9 DAYS: then the first has to take the dear 1, the last has none.
        NameRail z = rail(NAME, 1, NAME, 10, NAME, 20, NAME, 20, NAME, 20, NAME, 2);
        z.change(0, 2, 41);
        z.person(0, 0, 9999);
        due(0, z.best(0, 9));
        due(orderOf("123450"), z.best(0, 10));
    }

    private static void wishesFor() {
        says("wishFor: The WISH (-1 to the last NAME) by which its PURSE is greatest behind n (0 to 60) DAYS; the least");
        NameRail x = rail(NAME, 9, NAME, 9, NAME, 9, NAME, 9, NAME, 9, NAME, 9, NAME, 9, NAME, 0);
        due(-1, x.wishFor(0, 0));
        due(7, x.wishFor(0, 1));
        due(7, x.wishFor(0, 11));
        due(7, x.wishFor(0, 60));
        due(BEYOND, x.wishFor(0, 61));
        due(BEYOND, x.wishFor(0, -1));
        // -1 and the wish 0 draw the same.
        x.change(0, 1, 0);
        due(-1, x.wishFor(0, 1));
        x.change(0, 1, 9);
        x.change(3, 1, 0);
        due(3, x.wishFor(0, 1));
        x.change(7, 2, 50);
        x.change(3, 1, 9);
        due(-1, x.wishFor(0, 1));
        due(-1, new NameRail().wishFor(5, 60));
    }

    private static void peace() {
        says("peace: The set of most NAMES that HANG of which no two quarrel; of several the least");
        due(0, new NameRail().peace());
        due(1, railOf(1, 0).peace());
        due(255, railOf(8, 0).peace());
        NameRail x = railOf(8, 0);
        x.change(7, 4, 6);
        due(127, x.peace());
        x.change(6, 2, 50);
        due(191, x.peace());
        x.change(6, 2, 0);
        for (int i = 1; i < 8; i++) {
            x.change(i, 4, 0);
        }
        due(254, x.peace());
        for (int i = 2; i < 8; i++) {
            x.change(i, 2, 50);
        }
        due(1, x.peace());
        x.change(0, 2, 50);
        due(2, x.peace());
        x.change(1, 2, 50);
        due(0, x.peace());
        says("peaceful: How many sets of k (0 to 8) such NAMES there are");
        due(1, x.peaceful(0));
        due(0, x.peaceful(1));
        due(0, x.peaceful(8));
        due(1, new NameRail().peaceful(0));
        due(0, new NameRail().peaceful(1));
        NameRail y = railOf(8, 0);
        int[] sets = {1, 8, 28, 56, 70, 56, 28, 8, 1};
        for (int k = 0; k < 9; k++) {
            due(sets[k], y.peaceful(k));
        }
        due(BEYOND, y.peaceful(9));
        due(BEYOND, y.peaceful(-1));
        y.change(0, 4, 1);
        y.change(1, 4, 0);
        due(27, y.peaceful(2));
        due(0, y.peaceful(8));
        due(2, y.peaceful(7));
    }

    private static void groups() {
        says("groups: all NAMES (0: there are none)");
        due(0, new NameRail().groups());
        due(1, railOf(1, 0).groups());
        NameRail x = railOf(2, 0);
        due(1, x.groups());
        x.change(1, 4, 0);
        due(2, x.groups());
        says("all NAMES: those that don't HANG, too");
        x.change(0, 2, 99);
        x.change(1, 2, 99);
        due(2, x.groups());
        says("so that no two of a group quarrel");
        NameRail y = railOf(8, 0);
        for (int i = 0; i < 8; i++) {
            y.change(i, 4, (i + 1) % 8);
        }
        due(2, y.groups());
        y.change(6, 4, 0);
        due(3, y.groups());
        y.change(6, 4, -1);
        due(2, y.groups());
    }

    private static void mendsFor() {
        says("mendFor: The NAME that, with WEAR 0, lets all PURSES together be greatest behind n (0 to 60) DAYS");
        NameRail x = rail(STRETCHED, 0, STRETCHED, 0);
        x.change(0, 2, 10);
        x.change(1, 2, 40);
        due(0, x.mendFor(0));
        due(1, x.mendFor(1));
        x.change(1, 2, 19);
        due(0, x.mendFor(1));
        due(BEYOND, x.mendFor(61));
        due(BEYOND, x.mendFor(-1));
        due(NONE, new NameRail().mendFor(0));
        due(NONE, new NameRail().mendFor(60));
        due(0, railOf(1, 5).mendFor(60));
        due(7, lastIsBest(STRETCHED, 49).mendFor(1));
        says("without: The NAME without which (its WEAR 99) all PURSES together would be greatest behind n (0 to 60) DAYS");
        NameRail y = rail(NAME, 4, NAME, 5);
        due(0, y.without(0));
        due(1, y.without(1));
        y.change(1, 2, 50);
        due(0, y.without(1));
        due(BEYOND, y.without(61));
        due(BEYOND, y.without(-1));
        due(NONE, new NameRail().without(0));
        due(NONE, new NameRail().without(60));
        due(0, railOf(1, 0).without(60));
        due(7, lastIsBest(NAME, 0).without(1));
        due(0, y.of(0, 2));
        says("of several the least number counts: all PURSES are 0");
        for (int p = 0; p < 6; p++) {
            y.person(p, 0, 0);
        }
        due(0, y.mendFor(60));
        due(0, y.without(60));
        due(0, y.mendFor(0));
        due(0, y.without(0));
        due(0, y.best(0, 10));
        due(-1, y.wishFor(0, 60));
    }

    /** 2 to 7 hang, and 7 is the dearest. */
    private static NameRail lastIsBest(int kind, int wear) {
        NameRail x = railOf(7, 1);
        x.change(0, 2, 50);
        x.change(1, 2, 50);
        x.change(0, 1, 9);
        x.change(1, 1, 9);
        x.name(kind, 2);
        x.change(7, 2, wear);
        return x;
    }

    private static void fits() {
        says("fits: WISHES (-1 to the last NAME): a sheet that tells nothing fits all");
        NameRail none = new NameRail();
        none.sheet(0, 8, 0);
        due(1, none.fits(0, 0));
        due(-1, none.wish(0, 0));
        NameRail all = railOf(8, 1);
        all.sheet(3, 32, 0);
        due(9, all.fits(3, 5));
        due(-1, all.wish(3, 5));
        says("as a sheet tells (-1: any)");
        tell(all, 3, 8, -1, 255, -1);
        due(9, all.fits(3, 0));
        tell(all, 3, 16, 65535, -1);
        due(9, all.fits(3, 0));
        tell(all, 3, 32, -1, 65535);
        due(0, all.fits(3, 0));
        tell(all, 3, 16, -2);
        due(0, all.fits(3, 0));
        says("its PURSE now and behind each DAY further on");
        NameRail x = rail(NAME, 1, NAME, 2);
        x.person(0, 0, 120);
        tell(x, 0, 8, 120);
        due(3, x.fits(0, 0));
        tell(x, 0, 8, 119);
        due(0, x.fits(0, 0));
        due(NONE, x.wish(0, 0));
        tell(x, 0, 8, 120, 119);
        due(2, x.fits(0, 0));
        due(-1, x.wish(0, 0));
        tell(x, 0, 8, 120, 118);
        due(1, x.fits(0, 0));
        due(1, x.wish(0, 0));
        says("rows of at most 40 numbers: the last is behind 39 DAYS");
        x.sheet(1, 8, 40);
        for (int i = 0; i < 40; i++) {
            x.write(1, i, -1);
        }
        x.write(1, 39, 120 - 39);
        due(2, x.fits(1, 0));
        x.write(1, 39, 120 - 2 * 39);
        due(1, x.fits(1, 0));
        due(1, x.wish(1, 0));
        x.write(1, 39, 120 - 2 * 38);
        due(0, x.fits(1, 0));
        says("told with their sign: of 8 bits");
        x.person(0, 0, 200);
        tell(x, 0, 8, 200);
        due(0, x.fits(0, 0));
        tell(x, 0, 16, 200);
        due(3, x.fits(0, 0));
        x.person(0, 0, 9999);
        tell(x, 0, 16, 9999, 9998);
        due(2, x.fits(0, 0));
        due(9999, x.personOf(0, 0));
        due(0, x.now(0));
    }

    private static void draws() {
        says("each makes it z * 1103515245 + 12345 (an int), and gives z >>> 8");
        int[] seeds = {0, 1, 2, -1, 77, Integer.MAX_VALUE, Integer.MIN_VALUE, -12345, 987654321};
        for (int seed : seeds) {
            NameRail x = railOf(8, 0);
            x.seed(seed);
            long z = seed & 0xffffffffL;
            for (int i = 0; i < 40; i++) {
                for (int n = 0; n < 8; n++) {
                    x.change(n, 2, 60);
                }
                z = (z * 1103515245L + 12345L) & 0xffffffffL;
                int rest = (int) (z / 256 % 16);
                due(0, x.moths(1));
                due((int) z, x.count(6));
                for (int n = 0; n < 8 && i % 10 == 0; n++) {
                    due(n == rest ? 70 : 60, x.of(n, 2));
                }
                due(rest < 8 ? 0 : 600, rest < 8 ? x.of(rest, 2) - 70 : x.now(2));
            }
        }
    }

    /** A seed by which the next draw's rest by 16 is as told. */
    private static int seedFor(int rest) {
        int seed = 0;
        while ((((seed * 1103515245 + 12345) >>> 8) & 15) != rest) {
            seed++;
        }
        return seed;
    }

    private static void moths() {
        says("moths: the NAME of the number that is its rest by 16, if there is one");
        for (int names = 0; names <= 8; names++) {
            for (int rest = 0; rest < 16; rest++) {
                NameRail x = railOf(names, 0);
                for (int n = 0; n < names; n++) {
                    x.change(n, 2, 50);
                }
                x.seed(seedFor(rest));
                due(0, x.moths(1));
                int sum = 0;
                for (int n = 0; n < names; n++) {
                    sum += x.of(n, 2) - 50;
                }
                due(rest < names ? 10 : 0, sum);
                due(rest < names ? 60 : BEYOND, rest < names ? x.of(rest, 2) : x.of(names, 2));
                due(1, x.now(0));
            }
        }
        says("is 10 more (99 at most); then a DAY");
        int[][] rows = {{0, 11}, {38, 49}, {39, 50}, {40, 50}, {50, 60}, {88, 98}, {89, 99}, {90, 99}, {99, 99}};
        for (int[] r : rows) {
            NameRail x = rail(NAME, 1);
            x.seed(seedFor(0));
            x.change(0, 2, r[0]);
            due(r[1] < 50 ? 1 : 0, x.moths(1));
            due(r[1], x.of(0, 2));
            due(r[0] < 40 ? 599 : 600, x.now(2));
        }
        says("moths: a NAME that comes behind a draw isn't worn by it");
        NameRail y = railOf(2, 0);
        y.seed(seedFor(2));
        y.moths(1);
        y.name(NAME, 0);
        due(0, y.of(2, 2));
        says("n times (1 to 20): how many NAMES HANG then");
        NameRail z = new NameRail();
        due(0, z.moths(1));
        due(1, z.now(0));
        due(0, z.moths(20));
        due(21, z.now(0));
        due(BEYOND, z.moths(21));
        due(BEYOND, z.moths(0));
        due(21, z.now(0));
    }

    private static void odds() {
        says("odds: n (0 to 14) such draws are all of NAMES that HANG: a fraction in lowest terms");
        for (int hang = 0; hang <= 8; hang++) {
            NameRail x = railOf(8, 0);
            for (int i = hang; i < 8; i++) {
                x.change(i, 2, 50);
            }
            int[][] lowest = {{0, 1}, {1, 16}, {1, 8}, {3, 16}, {1, 4}, {5, 16}, {3, 8}, {7, 16}, {1, 2}};
            long above = 1;
            long below = 1;
            for (int n = 0; n <= 14; n++) {
                due(above, x.odds(n, 0));
                due(below, x.odds(n, 1));
                above *= lowest[hang][0];
                below *= lowest[hang][1];
            }
            due(BEYOND, x.odds(15, 0));
            due(BEYOND, x.odds(-1, 0));
            due(BEYOND, x.odds(0, -1));
            due(BEYOND, x.odds(0, 2));
            due(1, x.count(6));
        }
    }
}
