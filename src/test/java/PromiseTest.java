/** At least one test for each promise: ordinary inputs, the edges that the document names, wrong inputs. */
public final class PromiseTest {
    private static final int LOW = -1000001;
    private static final int BEYOND = LOW;
    private static final int FULL = LOW - 1;
    private static final int KIND = LOW - 2;
    private static final int NONE = LOW - 3;
    private static final int STATE = LOW - 4;
    private static final int MISSING = LOW - 5;
    private static final int SIZE = LOW - 6;

    private static final int NAME = 0;
    private static final int STRETCHED = 1;
    private static final int DOUBLE = 2;
    private static final int LEFT = 3;
    private static final int NOBODYS = 4;
    private static final int MOTHY = 5;
    private static final int TORN = 6;

    private static int promise = 0;
    private static int wrong = 0;

    private static void due(long want, long got) {
        if (want != got) {
            wrong++;
            StackTraceElement at = new Throwable().getStackTrace()[1];
            System.out.println("promise " + promise + ", line " + at.getLineNumber()
                    + ": answered " + got + ", due is " + want);
        }
    }

    private static NameRail rail(int... kindsAndDuties) {
        NameRail x = new NameRail();
        for (int i = 0; i + 1 < kindsAndDuties.length; i += 2) {
            x.name(kindsAndDuties[i], kindsAndDuties[i + 1]);
        }
        return x;
    }

    private static int read(NameRail x, String text) {
        feed(x, text);
        return x.text();
    }

    private static void feed(NameRail x, String text) {
        for (int i = 0; i < text.length(); i++) {
            x.feed(text.charAt(i), 1);
        }
    }

    private static void tell(NameRail x, int s, int bits, int... numbers) {
        x.sheet(s, bits, numbers.length);
        for (int i = 0; i < numbers.length; i++) {
            x.write(s, i, numbers[i]);
        }
    }

    public static void main(String[] args) {
        newObject();
        names();
        change();
        people();
        orders();
        days();
        mending();
        foresight();
        kindsAhead();
        ordersAsked();
        cheapestAndCalmest();
        bestAndWishFor();
        peaces();
        groups();
        mendForAndWithout();
        fitting();
        moths();
        odds();
        seeds();
        tapes();
        texts();
        faults();
        spots();
        sheets();
        copies();
        loads();
        judges();
        images();
        counts();
        statuses();
        System.out.println(wrong == 0 ? "all promises hold" : wrong + " answers are not as promised");
        if (wrong != 0) {
            System.exit(1);
        }
    }

    private static void newObject() {
        promise = 1;
        NameRail x = new NameRail();
        int[] counts = {0, 0, 0, 0, 600, 0, 1, 0};
        for (int what = 0; what < 8; what++) {
            due(counts[what], x.count(what));
        }
        int[] now = {0, 0, 600, 0, 0, 0};
        for (int what = 0; what < 6; what++) {
            due(now[what], x.now(what));
        }
        for (int p = 0; p < 6; p++) {
            due(100, x.personOf(p, 0));
            due(-1, x.personOf(p, 1));
            due(p, x.personOf(p, 2));
        }
        for (int s = 0; s < 4; s++) {
            due(MISSING, x.load(s));
        }
        for (int spot = 0; spot < 10; spot++) {
            due(MISSING, x.as(spot, NAME));
        }
        due(0, x.tear());
        due(NONE, x.undo());
    }

    private static void names() {
        promise = 2;
        NameRail x = new NameRail();
        due(BEYOND, x.name(-1, 0));
        due(BEYOND, x.name(7, 0));
        due(BEYOND, x.name(0, -1));
        due(BEYOND, x.name(0, 100));
        for (int i = 0; i < 8; i++) {
            due(i, x.name(i % 7, i == 7 ? 99 : i));
        }
        due(FULL, x.name(0, 0));
        due(BEYOND, x.name(7, 0));
        due(8, x.count(1));
        promise = 3;
        for (int i = 0; i < 8; i++) {
            due(i % 7, x.of(i, 0));
            due(i == 7 ? 99 : i, x.of(i, 1));
            due(0, x.of(i, 2));
            due(0, x.of(i, 3));
            due(-1, x.of(i, 4));
            due(1, x.of(i, 7));
            due(0, x.of(i, 8));
        }
        due(BEYOND, x.of(8, 0));
        due(BEYOND, x.of(-1, 0));
        due(BEYOND, x.of(0, 9));
        due(BEYOND, x.of(0, -1));
        duesAndFades();
    }

    private static void duesAndFades() {
        int[] plainDues = {7, 10, 14, 14, 7, 3, 15};
        int[] owingDues = {7, 10, 14, 0, 0, 3, 15};
        int[] fades = {1, 2, 1, 1, 1, 3, 4};
        NameRail x = rail(NAME, 7);
        x.change(0, 2, 39);
        for (int k = 0; k < 7; k++) {
            x.change(0, 0, k);
            x.change(0, 3, 0);
            due(plainDues[k], x.of(0, 5));
            x.change(0, 3, 1);
            due(owingDues[k], x.of(0, 5));
            due(fades[k], x.of(0, 6));
        }
        x.change(0, 2, 49);
        due(1, x.of(0, 7));
        x.change(0, 2, 50);
        due(0, x.of(0, 7));
        x.change(0, 0, STRETCHED);
        x.change(0, 2, 40);
        due(11, x.of(0, 5));
        x.change(0, 2, 99);
        due(16, x.of(0, 5));
        NameRail y = rail(NAME, 1, NAME, 1, NAME, 1, NAME, 1);
        y.change(3, 4, 0);
        due(1, y.of(3, 8));
        due(8, y.of(0, 8));
        y.change(0, 4, 2);
        y.change(3, 4, 2);
        y.change(2, 4, 1);
        due(4, y.of(0, 8));
        due(4, y.of(1, 8));
        due(1 + 2 + 8, y.of(2, 8));
        y.change(2, 4, 0);
        due(1 + 8, y.of(2, 8));
        due(0, y.of(1, 8));
    }

    private static void change() {
        promise = 4;
        NameRail x = rail(DOUBLE, 30, NAME, 4);
        due(DOUBLE, x.change(0, 0, TORN));
        due(TORN, x.of(0, 0));
        due(30, x.change(0, 1, 0));
        due(0, x.change(0, 1, 99));
        due(99, x.of(0, 1));
        due(0, x.change(0, 2, 5));
        due(5, x.change(0, 2, 0));
        due(0, x.change(0, 2, 99));
        due(99, x.of(0, 2));
        due(0, x.change(0, 3, 99999));
        due(99999, x.of(0, 3));
        due(-1, x.change(0, 4, 1));
        due(1, x.change(0, 4, -1));
        due(-1, x.change(0, 4, 1));
        due(BEYOND, x.change(0, 0, 7));
        due(BEYOND, x.change(0, 0, -1));
        due(BEYOND, x.change(0, 1, 100));
        due(BEYOND, x.change(0, 1, -1));
        due(BEYOND, x.change(0, 2, 100));
        due(BEYOND, x.change(0, 2, -1));
        due(BEYOND, x.change(0, 3, 100000));
        due(BEYOND, x.change(0, 3, -1));
        due(BEYOND, x.change(0, 4, 0));
        due(BEYOND, x.change(0, 4, 2));
        due(BEYOND, x.change(0, 4, -2));
        due(BEYOND, x.change(0, 5, 0));
        due(BEYOND, x.change(0, -1, 0));
        due(BEYOND, x.change(2, 0, 0));
        due(BEYOND, x.change(-1, 0, 0));
        int[] stays = {TORN, 99, 99, 99999, 1};
        for (int what = 0; what < 5; what++) {
            due(stays[what], x.of(0, what));
        }
    }

    private static void people() {
        promise = 5;
        NameRail x = rail(NAME, 1, NAME, 1);
        due(100, x.person(5, 0, 9999));
        due(9999, x.person(5, 0, 0));
        due(0, x.personOf(5, 0));
        due(-1, x.person(5, 1, 1));
        due(1, x.person(5, 1, -1));
        due(-1, x.person(5, 1, 0));
        due(BEYOND, x.person(5, 0, 10000));
        due(BEYOND, x.person(5, 0, -1));
        due(BEYOND, x.person(5, 1, 2));
        due(BEYOND, x.person(5, 1, -2));
        due(BEYOND, x.person(5, 2, 0));
        due(BEYOND, x.person(5, -1, 0));
        due(BEYOND, x.person(6, 0, 0));
        due(BEYOND, x.person(-1, 0, 0));
        promise = 6;
        due(0, x.personOf(5, 0));
        due(0, x.personOf(5, 1));
        x.order(719);
        due(0, x.personOf(5, 2));
        due(5, x.personOf(0, 2));
        due(BEYOND, x.personOf(0, 3));
        due(BEYOND, x.personOf(0, -1));
        due(BEYOND, x.personOf(6, 0));
        due(BEYOND, x.personOf(-1, 0));
    }

    private static void orders() {
        promise = 7;
        NameRail x = new NameRail();
        due(0, x.order(719));
        due(719, x.order(123));
        due(BEYOND, x.order(720));
        due(BEYOND, x.order(-1));
        due(123, x.now(5));
        promise = 8;
        int number = 0;
        for (int code = 0; code < 1000000; code++) {
            String told = String.format("%06d", code);
            if (told.matches("[0-5]{6}") && told.chars().distinct().count() == 6) {
                NameRail y = number % 80 == 0 ? new NameRail() : x;
                x = y;
                for (int place = 0; place < 6; place++) {
                    due(told.charAt(place) - '0', y.at(number, place));
                }
                number++;
            }
        }
        due(720, number);
        due(BEYOND, x.at(720, 0));
        due(BEYOND, x.at(-1, 0));
        due(BEYOND, x.at(0, 6));
        due(BEYOND, x.at(0, -1));
    }

    private static void days() {
        promise = 9;
        NameRail x = rail(NAME, 10, DOUBLE, 20, LEFT, 30, MOTHY, 9, TORN, 1, STRETCHED, 2, NAME, 50);
        x.person(1, 0, 15);
        x.person(2, 1, 6);
        x.change(0, 4, 1);
        x.change(1, 4, 0);
        x.change(3, 4, 2);
        // Day 1: 0 draws 0, 1 draws 1, 2 draws 6, 3 draws 2, 4 draws 3, 5 draws 4.
        due(90 + 0 + 50 + 40 + 96 + 94, x.go(1));
        int[] purses = {90, 0, 50, 40, 96, 94};
        int[] wears = {1, 1, 1, 3, 4, 0, 1};
        int[] debts = {0, 25, 0, 0, 0, 0, 0};
        for (int p = 0; p < 6; p++) {
            due(purses[p], x.personOf(p, 0));
        }
        for (int i = 0; i < 7; i++) {
            due(wears[i], x.of(i, 2));
            due(debts[i], x.of(i, 3));
        }
        due(2, x.now(4));
        due(1, x.now(0));
        due(BEYOND, x.go(0));
        due(BEYOND, x.go(61));
        due(1, x.now(0));
        // Day 2: 3 has 40 of the 60 that LEFT asks; its debt makes LEFT free on day 3.
        x.go(2);
        due(0, x.personOf(3, 0));
        due(20, x.of(2, 3));
        due(25 + 40 + 40, x.of(1, 3));
        due(2 * 3, x.now(4));
        NameRail y = rail(NAME, 99);
        y.change(0, 3, 99990);
        y.person(0, 0, 3);
        due(500, y.go(60));
        due(99999, y.of(0, 3));
        due(50, y.of(0, 2));
        due(60, y.now(0));
        NameRail z = rail(TORN, 0);
        z.change(0, 2, 48);
        z.go(1);
        due(52, z.of(0, 2));
        z.go(1);
        due(52, z.of(0, 2));
        nowTold();
    }

    private static void nowTold() {
        promise = 10;
        NameRail x = rail(NAME, 10, NAME, 20, NAME, 30);
        x.change(1, 2, 50);
        x.change(0, 4, 2);
        x.change(1, 3, 7);
        x.person(0, 0, 4);
        x.order(5);
        x.go(2);
        due(2, x.now(0));
        due(5, x.now(1));
        due(500 - 60, x.now(2));
        due(7 + 6 + 10, x.now(3));
        due(2, x.now(4));
        due(5, x.now(5));
        due(BEYOND, x.now(6));
        due(BEYOND, x.now(-1));
    }

    private static void mending() {
        promise = 11;
        NameRail x = rail(NAME, 10);
        x.change(0, 2, 60);
        due(40, x.mend(0, 3, 20));
        due(80, x.personOf(3, 0));
        due(40, x.mend(0, 3, 0));
        due(0, x.mend(0, 3, 80));
        due(0, x.personOf(3, 0));
        due(STATE, x.mend(0, 3, 1));
        due(BEYOND, x.mend(0, 4, 100));
        due(BEYOND, x.mend(0, 4, -1));
        due(BEYOND, x.mend(1, 4, 1));
        due(BEYOND, x.mend(-1, 4, 1));
        due(BEYOND, x.mend(0, 6, 1));
        due(BEYOND, x.mend(0, -1, 1));
        due(0, x.mend(0, 4, 99));
        due(1, x.personOf(4, 0));
    }

    private static void foresight() {
        promise = 12;
        NameRail x = rail(NAME, 10, NAME, 20, NAME, 30);
        x.change(1, 2, 50);
        x.person(0, 1, 2);
        x.person(1, 1, 2);
        x.person(2, 1, 1);
        due(2, x.wears(0));
        due(0, x.wears(1));
        due(-1, x.wears(2));
        due(BEYOND, x.wears(6));
        due(BEYOND, x.wears(-1));
        x.order(719);
        due(0, x.wears(5));
        due(2, x.wears(4));
        due(-1, x.wears(0));
        promise = 13;
        due(100, x.ahead(5, 0));
        due(70, x.ahead(5, 3));
        due(0, x.ahead(5, 100));
        due(BEYOND, x.ahead(5, 101));
        due(BEYOND, x.ahead(5, -1));
        due(BEYOND, x.ahead(6, 1));
        promise = 14;
        due(0, x.owes(0, 0));
        due(0, x.owes(0, 10));
        due(10, x.owes(0, 11));
        due(400, x.owes(0, 100));
        due(BEYOND, x.owes(0, 101));
        due(BEYOND, x.owes(0, -1));
        due(BEYOND, x.owes(3, 1));
        promise = 15;
        due(50, x.lasts(0));
        due(0, x.lasts(1));
        due(BEYOND, x.lasts(3));
        due(BEYOND, x.lasts(-1));
        promise = 16;
        due(10, x.broke(5));
        due(NONE, x.broke(0));
        x.person(0, 0, 0);
        due(0, x.broke(0));
        due(BEYOND, x.broke(6));
        due(BEYOND, x.broke(-1));
        promise = 17;
        due(0, x.often(5, 0, 0));
        due(7, x.often(5, 0, 7));
        due(50, x.often(5, 0, 100));
        due(0, x.often(5, 1, 100));
        due(BEYOND, x.often(6, 0, 1));
        due(BEYOND, x.often(5, 3, 1));
        due(BEYOND, x.often(5, 0, 101));
        due(BEYOND, x.often(5, 0, -1));
        due(0, x.now(0));
        due(0, x.of(0, 2));
        lastsBehindOthers();
    }

    // Seven NAMES, six people: the last one hangs unworn until another is worn out.
    private static void lastsBehindOthers() {
        promise = 15;
        NameRail x = rail(NAME, 0, NAME, 0, NAME, 0, NAME, 0, NAME, 0, NAME, 0, NAME, 0);
        due(100, x.lasts(6));
        x.change(6, 0, MOTHY);
        due(67, x.lasts(6));
        // Worn once a day from day 1 on, when 0 is worn out.
        x.change(6, 0, NAME);
        x.change(0, 2, 49);
        due(51, x.lasts(6));
        promise = 16;
        NameRail y = rail(NAME, 2);
        due(50, y.broke(0));
        y.change(0, 1, 1);
        due(NONE, y.broke(0));
        // 0 wears 0 for 50 DAYS, then 6 for 50 more.
        NameRail z = rail(NAME, 1, NAME, 0, NAME, 0, NAME, 0, NAME, 0, NAME, 0, NAME, 1);
        due(100, z.broke(0));
        z.person(0, 0, 101);
        due(NONE, z.broke(0));
    }

    // A NAME fades least of all KINDS, and is the least of those that fade so.
    private static void kindsAhead() {
        promise = 18;
        NameRail x = rail(TORN, 1, NOBODYS, 1, MOTHY, 1);
        for (int wear = 0; wear < 100; wear += 7) {
            x.change(0, 2, wear);
            due(NAME, x.kindFor(0));
            due(NAME, x.kindFor(1));
            due(NAME, x.kindFor(2));
        }
        due(TORN, x.of(0, 0));
        due(BEYOND, x.kindFor(3));
        due(BEYOND, x.kindFor(-1));
    }

    private static void ordersAsked() {
        promise = 19;
        NameRail x = rail(NAME, 10, NAME, 20, NAME, 30);
        x.person(0, 1, 2);
        due(0, x.orderFor(0, 2));
        // 1 draws 0 first of those who don't wish 2: ahead of 2..5, wherever 0 stands.
        due(0, x.orderFor(1, 0));
        due(NONE, x.orderFor(0, 0));
        due(BEYOND, x.orderFor(6, 0));
        due(BEYOND, x.orderFor(-1, 0));
        due(BEYOND, x.orderFor(0, 3));
        due(BEYOND, x.orderFor(0, -1));
        // 5 first: the least order that begins with 5 is 600; behind 0 alone: 0, 5, 1, 2, 3, 4 is 96.
        due(96, x.orderFor(5, 0));
        promise = 20;
        due(144, x.orders(5, 0));
        due(0, x.orders(0, 0));
        due(BEYOND, x.orders(6, 0));
        due(BEYOND, x.orders(-1, 0));
        due(BEYOND, x.orders(0, 3));
        due(BEYOND, x.orders(0, -1));
        NameRail y = rail(NAME, 1, NAME, 1);
        due(120, y.orders(3, 0));
        due(120, y.orders(0, 0));
        due(120, y.orders(3, 1));
        due(360, y.orderFor(3, 0));
        due(48, y.orderFor(3, 1));
        due(0, y.now(5));
    }

    // The set of drawn NAMES is the same by every order: all that are wished and hang, and of the others
    // those that hang there first. So the least order of all is due, however people wish.
    private static void cheapestAndCalmest() {
        NameRail x = rail(NAME, 1, DOUBLE, 40, TORN, 3, NAME, 4, NAME, 5, NAME, 6, NAME, 70, NAME, 8);
        x.order(300);
        for (int i = 0; i < 8; i++) {
            promise = 21;
            due(0, x.cheapest());
            promise = 22;
            due(0, x.calmest());
            x.change(i, 4, (i * 3 + 1) % 8);
            x.person(i % 6, 1, (i * 5 + 2) % 8);
            x.change((i + 4) % 8, 2, 50 - i % 2);
        }
        due(300, x.now(5));
        promise = 21;
        due(0, new NameRail().cheapest());
        promise = 22;
        due(0, new NameRail().calmest());
    }

    private static void bestAndWishFor() {
        promise = 23;
        NameRail x = rail(NAME, 10, NAME, 20, NAME, 30);
        // 0 draws nothing behind three others; the least such order is 1, 2, 3, 0, 4, 5.
        due(orderOf(x, "123045"), x.best(0, 1));
        due(0, x.best(0, 0));
        due(0, x.best(5, 10));
        due(BEYOND, x.best(0, 11));
        due(BEYOND, x.best(0, -1));
        due(BEYOND, x.best(6, 1));
        due(BEYOND, x.best(-1, 1));
        due(0, x.now(5));
        promise = 24;
        NameRail y = rail(NAME, 10, NAME, 5, NAME, 7, NAME, 5);
        due(1, y.wishFor(0, 1));
        due(-1, y.wishFor(0, 0));
        due(-1, y.wishFor(5, 60));
        y.change(1, 2, 48);
        due(3, y.wishFor(0, 4));
        due(1, y.wishFor(0, 2));
        due(BEYOND, y.wishFor(0, 61));
        due(BEYOND, y.wishFor(0, -1));
        due(BEYOND, y.wishFor(6, 1));
        due(BEYOND, y.wishFor(-1, 1));
        due(-1, y.personOf(0, 1));
        due(-1, new NameRail().wishFor(0, 60));
    }

    private static int orderOf(NameRail x, String told) {
        for (int o = 0; o < 720; o++) {
            NameRail y = new NameRail();
            boolean same = true;
            for (int place = 0; place < 6; place++) {
                same &= y.at(o, place) == told.charAt(place) - '0';
            }
            if (same) {
                return o;
            }
        }
        return -1;
    }

    private static void peaces() {
        promise = 25;
        NameRail x = rail(NAME, 1, NAME, 1, NAME, 1, NAME, 1, NAME, 1);
        due(31, x.peace());
        x.change(0, 4, 1);
        due(1 + 4 + 8 + 16, x.peace());
        x.change(2, 4, 0);
        due(2 + 4 + 8 + 16, x.peace());
        x.change(3, 2, 50);
        due(2 + 4 + 16, x.peace());
        due(0, new NameRail().peace());
        promise = 26;
        due(1, x.peaceful(0));
        due(4, x.peaceful(1));
        due(4, x.peaceful(2));
        due(1, x.peaceful(3));
        due(0, x.peaceful(4));
        due(0, x.peaceful(8));
        due(BEYOND, x.peaceful(9));
        due(BEYOND, x.peaceful(-1));
        NameRail y = rail(NAME, 1, NAME, 1, NAME, 1, NAME, 1, NAME, 1, NAME, 1, NAME, 1, NAME, 1);
        due(1, y.peaceful(8));
        due(70, y.peaceful(4));
    }

    private static void groups() {
        promise = 27;
        NameRail x = new NameRail();
        due(0, x.groups());
        for (int i = 0; i < 8; i++) {
            x.name(NAME, 1);
        }
        due(1, x.groups());
        x.change(0, 4, 1);
        due(2, x.groups());
        x.change(1, 4, 2);
        due(2, x.groups());
        x.change(2, 4, 0);
        due(3, x.groups());
        x.change(2, 2, 99);
        due(3, x.groups());
        x.change(2, 4, 3);
        x.change(3, 4, 0);
        due(2, x.groups());
        x.change(3, 4, 4);
        x.change(4, 4, 0);
        due(3, x.groups());
    }

    private static void mendForAndWithout() {
        promise = 28;
        NameRail x = rail(NAME, 40, NAME, 3, STRETCHED, 5);
        x.change(0, 2, 60);
        x.change(1, 2, 60);
        x.change(2, 2, 39);
        // Mended, 0 and 1 would be worn besides; 2 pays three less a day.
        due(2, x.mendFor(1));
        due(0, x.mendFor(0));
        due(BEYOND, x.mendFor(61));
        due(BEYOND, x.mendFor(-1));
        due(NONE, new NameRail().mendFor(0));
        due(BEYOND, new NameRail().mendFor(61));
        due(60, x.of(0, 2));
        // From WEAR 0 either costs 50 till it is worn out: 1 on 50 DAYS, or 0, 0, 0, 0, 0, 1, .. 4 on 25.
        NameRail z = rail(STRETCHED, 0, NAME, 1);
        z.change(0, 2, 60);
        z.change(1, 2, 60);
        due(0, z.mendFor(60));
        z.change(0, 1, 1);
        due(1, z.mendFor(60));
        promise = 29;
        NameRail y = rail(NAME, 3, NAME, 40, NAME, 5);
        due(1, y.without(1));
        due(0, y.without(0));
        // Behind 60 DAYS all is paid away, whichever is gone.
        due(0, y.without(60));
        due(BEYOND, y.without(61));
        due(BEYOND, y.without(-1));
        due(NONE, new NameRail().without(60));
        due(BEYOND, new NameRail().without(-1));
        due(0, y.of(1, 2));
    }

    private static void fitting() {
        NameRail x = rail(NAME, 10, NAME, 20, NAME, 10);
        promise = 30;
        due(BEYOND, x.fits(4, 0));
        due(BEYOND, x.fits(-1, 0));
        due(MISSING, x.fits(0, 0));
        due(MISSING, x.fits(0, 6));
        tell(x, 0, 32, 100, 90, -1, 70);
        due(BEYOND, x.fits(0, 6));
        due(BEYOND, x.fits(0, -1));
        due(3, x.fits(0, 0));
        promise = 31;
        due(-1, x.wish(0, 0));
        due(BEYOND, x.wish(4, 0));
        due(MISSING, x.wish(1, 9));
        due(BEYOND, x.wish(0, 6));
        promise = 30;
        tell(x, 0, 32, 100, 80);
        due(1, x.fits(0, 0));
        due(1, x.wish(0, 0));
        tell(x, 0, 16, 99);
        due(0, x.fits(0, 0));
        due(NONE, x.wish(0, 0));
        tell(x, 0, 16, 100, -2);
        due(0, x.fits(0, 0));
        tell(x, 0, 8, 255, 255);
        due(4, x.fits(0, 3));
        x.sheet(0, 8, 0);
        due(4, x.fits(0, 3));
        promise = 31;
        due(-1, x.wish(0, 3));
        x.person(1, 1, 1);
        tell(x, 0, 16, 100, 90);
        // 1 draws behind 0, who takes 0: without a wish, or with the wish 0, it takes the dear one.
        due(1, x.fits(0, 1));
        due(2, x.wish(0, 1));
        due(1, x.personOf(1, 1));
        tell(x, 0, 16, 100, 80);
        due(3, x.fits(0, 1));
        due(-1, x.wish(0, 1));
    }

    private static void moths() {
        promise = 32;
        NameRail x = rail(NAME, 0, NAME, 0, NAME, 0, NAME, 0, NAME, 0, NAME, 0, NAME, 0, NAME, 0);
        x.change(3, 2, 95);
        due(BEYOND, x.moths(0));
        due(BEYOND, x.moths(21));
        due(1, x.count(6));
        int z = 1;
        int[] wear = {0, 0, 0, 95, 0, 0, 0, 0};
        for (int i = 0; i < 20; i++) {
            z = z * 1103515245 + 12345;
            int rest = (z >>> 8) % 16;
            if (rest < 8) {
                wear[rest] = Math.min(99, wear[rest] + 10);
            }
            int drawn = 0;
            for (int n = 0; n < 8 && drawn < 6; n++) {
                if (wear[n] < 50) {
                    wear[n]++;
                    drawn++;
                }
            }
        }
        int hang = 0;
        for (int n = 0; n < 8; n++) {
            hang += wear[n] < 50 ? 1 : 0;
        }
        due(hang, x.moths(20));
        due(20, x.now(0));
        due(z, x.count(6));
        for (int n = 0; n < 8; n++) {
            due(wear[n], x.of(n, 2));
        }
        // From z = 0 the draw is 12345 >>> 8 = 48: the rest is 0.
        NameRail y = rail(NAME, 0);
        y.seed(0);
        y.change(0, 2, 39);
        due(0, y.moths(1));
        due(50, y.of(0, 2));
        y.seed(0);
        y.change(0, 2, 90);
        due(0, y.moths(1));
        due(99, y.of(0, 2));
    }

    private static void odds() {
        promise = 33;
        NameRail x = new NameRail();
        due(0, x.odds(1, 0));
        due(1, x.odds(1, 1));
        due(1, x.odds(0, 0));
        due(1, x.odds(0, 1));
        x.name(NAME, 0);
        x.name(NAME, 0);
        x.name(NAME, 0);
        due(4782969, x.odds(14, 0));
        due(1L << 56, x.odds(14, 1));
        x.name(NAME, 0);
        due(1, x.odds(14, 0));
        due(1L << 28, x.odds(14, 1));
        x.name(NAME, 0);
        x.name(NAME, 0);
        due(27, x.odds(3, 0));
        due(512, x.odds(3, 1));
        x.change(0, 2, 50);
        due(25, x.odds(2, 0));
        due(256, x.odds(2, 1));
        due(BEYOND, x.odds(15, 0));
        due(BEYOND, x.odds(-1, 0));
        due(BEYOND, x.odds(1, 2));
        due(BEYOND, x.odds(1, -1));
    }

    private static void seeds() {
        promise = 34;
        NameRail x = new NameRail();
        due(1, x.seed(Integer.MIN_VALUE));
        due(Integer.MIN_VALUE, x.seed(BEYOND));
        due(BEYOND, x.seed(5));
        due(0, x.status(-1));
        due(5, x.count(6));
    }

    private static void tapes() {
        promise = 35;
        NameRail x = new NameRail();
        due(BEYOND, x.feed(0, 0));
        due(BEYOND, x.feed(0, 5));
        // The highest of the told bytes comes first: "or", "der", " 5".
        due(2, x.feed(0x7a7a6f72, 2));
        due(5, x.feed(0x7a646572, 3));
        due(7, x.feed(0x2035, 2));
        due(1, x.text());
        due(5, x.now(5));
        for (int i = 1; i <= 29; i++) {
            due(4 * i, x.feed(0x20202020, 4));
        }
        due(119, x.feed(0, 3));
        due(FULL, x.feed(0, 2));
        due(BEYOND, x.feed(0, 5));
        due(119, x.count(5));
        due(120, x.feed(0, 1));
        due(FULL, x.feed(0, 1));
        promise = 36;
        due(120, x.wipe());
        due(0, x.wipe());
        due(0, x.count(5));
    }

    private static void texts() {
        promise = 37;
        NameRail x = new NameRail();
        due(5, read(x, "name 7;torn 99 worn 98 against 0 ; person 4 purse 77 wishes 1;order 719;person 5"));
        due(0, x.count(5));
        due(2, x.count(1));
        int[] first = {NAME, 7, 0, 0, -1};
        int[] second = {TORN, 99, 98, 0, 0};
        for (int what = 0; what < 5; what++) {
            due(first[what], x.of(0, what));
            due(second[what], x.of(1, what));
        }
        due(77, x.personOf(4, 0));
        due(1, x.personOf(4, 1));
        due(100, x.personOf(5, 0));
        due(-1, x.personOf(5, 1));
        due(719, x.now(5));
        due(6, read(x, "stretched1worn2;double3against1;left4;nobodys5;mothy 06;person0wishes6"));
        int[] kinds = {STRETCHED, DOUBLE, LEFT, NOBODYS, MOTHY};
        for (int i = 0; i < 5; i++) {
            due(kinds[i], x.of(i + 2, 0));
        }
        due(1, x.of(3, 4));
        due(6, x.personOf(0, 1));
        due(3, read(x, "person 0 purse 1;person 0 purse 0002;  order 5  "));
        due(2, x.personOf(0, 0));
        due(-1 - 22, read(x, "person 0 purse 9;name 100"));
        due(2, x.personOf(0, 0));
        due(0, x.status(-1));
    }

    private static void fault(int want, String text) {
        NameRail x = rail(NAME, 1);
        due(-1 - want, read(x, text));
        due(0, x.count(5));
        due(1, x.count(1));
        due(600, x.count(4));
        due(0, x.now(5));
        due(-1, x.personOf(0, 1));
        due(0, x.status(-1));
    }

    private static void faults() {
        promise = 37;
        fault(0, "");
        fault(3, "   ");
        fault(4, "name");
        fault(6, "name  ");
        fault(5, "name 100");
        fault(5, "name x");
        fault(5, "name -1");
        fault(7, "name 1 worm 1");
        fault(11, "name 1 worn");
        fault(12, "name 1 worn 100");
        fault(15, "name 1 against 1");
        fault(15, "name 1 against ;");
        fault(17, "name 1 against 0 worn 1");
        fault(14, "name 1 worn 1 worn 1");
        fault(7, "name 1 1");
        fault(7, "name 1;");
        fault(8, "name 1; ");
        fault(7, "name 1;;order 1");
        fault(0, ";order 1");
        fault(0, "names 1");
        fault(0, "nam");
        fault(0, "namez 1");
        fault(0, "worn 1");
        fault(0, "Name 1");
        fault(4, "name\t1");
        fault(4, "name\n1");
        fault(4, "name\u00e91");
        fault(6, "name 1\0");
        fault(7, "person 6");
        fault(6, "person");
        fault(8, "person 0purs 1");
        fault(15, "person 0 purse 10000");
        fault(15, "person 0 purse 99999999999999999999999");
        fault(14, "person 0 purse");
        fault(16, "person 0 wishes 1");
        fault(18, "person 0 wishes 0 purse 1");
        fault(6, "order 720");
        fault(8, "order 1 order 2");
        fault(16, "order 1;order 2;5");
        fault(16, "order 700;order 99999");
        fault(35, "person 0 purse 1 wishes 0;person 1 7");
        // The WORD of a 9th NAME is the FAULT, whatever comes behind it.
        NameRail x = rail(NAME, 1, NAME, 1, NAME, 1, NAME, 1, NAME, 1, NAME, 1, NAME, 1);
        due(-1 - 8, read(x, "name 1; torn 100"));
        due(7, x.count(1));
        due(1, read(x, "torn 1 against 6"));
        due(-1 - 2, read(x, "  left 1"));
        // A wish may tell a NAME that the same TEXT has hung up ahead of it, none behind it.
        NameRail y = rail(NAME, 1);
        due(2, read(y, "name 1;person 0 wishes 1"));
        due(-1 - 16, read(y, "person 0 wishes 2;name 1"));
        due(-1 - 15, read(y, "name 1 against 2"));
    }

    private static void spots() {
        promise = 38;
        NameRail x = rail(NOBODYS, 1, TORN, 1);
        due(1, x.hold(0, 0));
        due(1, x.hold(9, 1));
        due(BEYOND, x.hold(10, 0));
        due(BEYOND, x.hold(-1, 0));
        due(BEYOND, x.hold(0, 2));
        due(BEYOND, x.hold(0, -2));
        due(2, x.count(7));
        promise = 39;
        int[] nobodys = {0, KIND, 0, 0, 0, KIND, KIND};
        int[] torn = {1, 1, KIND, KIND, KIND, KIND, 1};
        for (int k = 0; k < 7; k++) {
            due(nobodys[k], x.as(0, k));
            due(torn[k], x.as(9, k));
        }
        due(BEYOND, x.as(10, 0));
        due(BEYOND, x.as(-1, 0));
        due(BEYOND, x.as(1, 7));
        due(BEYOND, x.as(0, -1));
        due(MISSING, x.as(1, 0));
        x.change(0, 0, LEFT);
        due(KIND, x.as(0, NOBODYS));
        due(0, x.as(0, DOUBLE));
        x.change(0, 0, MOTHY);
        due(0, x.as(0, MOTHY));
        due(KIND, x.as(0, DOUBLE));
        promise = 38;
        due(1, x.hold(0, -1));
        due(MISSING, x.as(0, 0));
        due(1, x.count(7));
    }

    private static void sheets() {
        promise = 40;
        NameRail x = new NameRail();
        due(40, x.sheet(3, 8, 40));
        due(0, x.sheet(0, 16, 0));
        due(7, x.sheet(1, 32, 7));
        due(BEYOND, x.sheet(4, 8, 1));
        due(BEYOND, x.sheet(-1, 8, -1));
        due(BEYOND, x.sheet(0, 9, -1));
        due(BEYOND, x.sheet(0, -8, 1));
        due(SIZE, x.sheet(0, 8, -1));
        due(SIZE, x.sheet(0, 0, -1));
        due(BEYOND, x.sheet(0, 8, 41));
        due(BEYOND, x.sheet(0, 0, 41));
        due(0, x.load(0));
        due(0, x.sheet(3, 0, 40));
        due(MISSING, x.load(3));
        promise = 41;
        due(BEYOND, x.write(4, 0, 1));
        due(BEYOND, x.write(-1, 0, 1));
        due(MISSING, x.write(3, 99, 1));
        due(BEYOND, x.write(0, 0, 1));
        due(BEYOND, x.write(1, 7, 1));
        due(BEYOND, x.write(1, -1, 1));
        due(1, x.write(1, 6, 1));
        // What a sheet holds is told by load: 0 to 9999 comes as it is.
        tell(x, 2, 8, 127, 256 + 5, 128);
        due(2, x.load(2));
        due(127, x.personOf(0, 0));
        due(5, x.personOf(1, 0));
        tell(x, 2, 16, 0x10000 + 300, 0x8000);
        due(1, x.load(2));
        due(300, x.personOf(0, 0));
        tell(x, 2, 32, 9999, 0x10000);
        due(1, x.load(2));
        due(9999, x.personOf(0, 0));
        promise = 40;
        x.sheet(2, 32, 2);
        due(2, x.load(2));
        due(0, x.personOf(0, 0));
    }

    private static void copies() {
        promise = 42;
        NameRail x = new NameRail();
        tell(x, 0, 16, 1, 2, 3, 4, 5, 6);
        due(BEYOND, x.copy(4, 0, 0, 0, 1));
        due(BEYOND, x.copy(1, 0, 4, 0, 1));
        due(BEYOND, x.copy(-1, 0, 0, 0, 1));
        due(MISSING, x.copy(0, 0, 1, 0, -1));
        due(MISSING, x.copy(1, 0, 0, 0, -1));
        x.sheet(1, 8, 3);
        due(KIND, x.copy(0, -1, 1, 0, 1));
        x.sheet(1, 16, 3);
        due(BEYOND, x.copy(0, 0, 1, 0, 4));
        due(BEYOND, x.copy(1, 0, 0, 0, 4));
        due(BEYOND, x.copy(0, -1, 1, 0, 1));
        due(BEYOND, x.copy(0, 0, 1, -1, 1));
        due(BEYOND, x.copy(0, 0, 1, 0, -1));
        due(BEYOND, x.copy(0, 7, 1, 0, 0));
        due(BEYOND, x.copy(0, Integer.MAX_VALUE, 1, 0, Integer.MAX_VALUE));
        due(BEYOND, x.copy(0, 2, 1, 2, Integer.MAX_VALUE));
        due(0, x.copy(0, 6, 1, 3, 0));
        due(2, x.copy(0, 4, 1, 1, 2));
        x.load(1);
        int[] copied = {0, 5, 6};
        for (int p = 0; p < 3; p++) {
            due(copied[p], x.personOf(p, 0));
        }
        // Both ways within one sheet.
        due(4, x.copy(0, 0, 0, 2, 4));
        x.load(0);
        int[] up = {1, 2, 1, 2, 3, 4};
        for (int p = 0; p < 6; p++) {
            due(up[p], x.personOf(p, 0));
        }
        due(5, x.copy(0, 1, 0, 0, 5));
        x.load(0);
        int[] down = {2, 1, 2, 3, 4, 4};
        for (int p = 0; p < 6; p++) {
            due(down[p], x.personOf(p, 0));
        }
    }

    private static void loads() {
        promise = 43;
        NameRail x = new NameRail();
        due(BEYOND, x.load(4));
        due(BEYOND, x.load(-1));
        due(MISSING, x.load(0));
        tell(x, 0, 32, 1, 0, 9999, 10000, 5);
        due(3, x.load(0));
        due(1 + 0 + 9999 + 300, x.now(2));
        tell(x, 0, 32, -1, 5);
        due(0, x.load(0));
        tell(x, 0, 8, 1, 2, 3, 4, 5, 6, 7, 8);
        due(6, x.load(0));
        due(21, x.now(2));
    }

    private static void judges() {
        promise = 44;
        NameRail x = rail(NAME, 1, NAME, 1, NAME, 1);
        x.person(1, 1, 0);
        x.order(719);
        // 5 draws 0, 4 draws 1, 3 draws 2.
        due(BEYOND, x.judge(4));
        due(BEYOND, x.judge(-1));
        due(MISSING, x.judge(0));
        tell(x, 0, 8, -1, -1, -1, 2, 1, 0);
        due(0, x.judge(0));
        tell(x, 0, 32, -1, -1, -1, 2, 1, 1);
        due(6, x.judge(0));
        tell(x, 0, 32, 0, -1, -1, 2, 1, 1);
        due(1, x.judge(0));
        tell(x, 0, 16, -1, -1, -1, 2);
        due(0, x.judge(0));
        tell(x, 0, 16, -1, -1, -1, 2, 1, 0, -1);
        due(7, x.judge(0));
        x.sheet(0, 8, 0);
        due(0, x.judge(0));
    }

    private static void images() {
        promise = 45;
        NameRail x = rail(LEFT, 60, NAME, 5);
        x.hold(3, 1);
        x.person(2, 1, 1);
        x.order(77);
        x.seed(99);
        x.change(0, 4, 1);
        x.go(3);
        due(1, x.image());
        int[] counts = {x.count(0), x.count(1), x.count(2), x.count(3), x.count(4), 0, 99, 1};
        int[] now = {x.now(0), x.now(1), x.now(2), x.now(3), x.now(4), x.now(5)};
        due(3, now[0]);
        due(3, now[4]);
        x.name(MOTHY, 5);
        x.change(0, 0, NAME);
        x.change(0, 1, 1);
        x.change(0, 2, 99);
        x.change(0, 3, 5);
        x.change(0, 4, 2);
        x.change(1, 4, 2);
        x.hold(3, -1);
        x.person(2, 1, 2);
        x.order(5);
        x.go(1);
        due(4, x.now(4));
        x.moths(9);
        x.sheet(0, 8, 4);
        feed(x, "abc");
        x.of(9, 9);
        promise = 46;
        due(3, x.undo());
        for (int what = 0; what < 6; what++) {
            due(now[what], x.now(what));
        }
        counts[5] = 3;
        for (int what = 0; what < 8; what++) {
            due(counts[what], x.count(what));
        }
        int[] left = {LEFT, 60, 3, x.of(0, 3), 1};
        for (int what = 0; what < 5; what++) {
            due(left[what], x.of(0, what));
        }
        due(1, x.personOf(2, 1));
        due(1, x.as(3, 0));
        due(1, x.status(-1));
        due(4, x.load(0));
        x.go(5);
        due(3, x.undo());
        // What is kept doesn't change with what became of it.
        x.go(1);
        due(1, x.image());
        x.go(9);
        due(4, x.undo());
        promise = 47;
        due(1, x.tear());
        due(0, x.tear());
        due(NONE, x.undo());
        due(4, x.now(0));
        due(1, x.image());
        due(4, x.undo());
    }

    private static void counts() {
        promise = 48;
        NameRail x = rail(NAME, 1, NAME, 1, NAME, 1);
        x.change(1, 2, 50);
        x.change(0, 4, 2);
        x.hold(0, 1);
        x.hold(5, 1);
        x.feed(0, 3);
        x.seed(-7);
        x.go(4);
        int[] due = {4, 3, 2, 4, 592, 3, -7, 2};
        for (int what = 0; what < 8; what++) {
            due(due[what], x.count(what));
        }
        due(BEYOND, x.count(8));
        due(BEYOND, x.count(-1));
    }

    private static void statuses() {
        promise = 49;
        NameRail x = new NameRail();
        for (int which = -1; which < 7; which++) {
            due(0, x.status(which));
        }
        for (int i = 0; i < 8; i++) {
            x.name(MOTHY, 1);
        }
        x.image();
        x.order(720);
        x.at(720, 0);
        x.odds(15, 0);
        x.name(0, 0);
        x.hold(0, 0);
        x.as(0, TORN);
        x.as(0, STRETCHED);
        x.tear();
        x.undo();
        x.person(0, 0, 0);
        x.mend(0, 0, 1);
        x.as(1, 0);
        x.load(0);
        x.judge(0);
        x.sheet(0, 8, -1);
        x.sheet(0, 0, -1);
        x.image();
        x.go(1);
        x.undo();
        int[] due = {3, 1, 2, 1, 1, 3, 2};
        for (int which = 0; which < 7; which++) {
            due(due[which], x.status(which));
        }
        due(13, x.status(-1));
        due(BEYOND, x.status(7));
        due(BEYOND, x.status(-2));
        due(5, x.status(0));
        due(15, x.status(-1));
        // A FAULT, and z that looks like a finding, are none.
        x.feed(';', 1);
        due(-1, x.text());
        x.seed(BEYOND);
        due(BEYOND, x.count(6));
        due(15, x.status(-1));
    }
}
