/** Each sentence of the document that names a boundary, with the answers on both sides of it: Terms 3, promises 34 to 49. */
public final class TextBoundaryTest extends Rails {
    public static void main(String[] args) {
        feeding();
        bytesFed();
        tokens();
        blanks();
        numbers();
        numbersTooLong();
        nameItems();
        ninthNames();
        namesAlready();
        personItems();
        orderItems();
        otherWords();
        tooEarly();
        fullTapes();
        allOrNothing();
        spots();
        kindsUnder();
        sheets();
        written();
        copies();
        loads();
        judges();
        images();
        tears();
        counts();
        end("all boundaries of texts, spots, sheets and images hold");
    }

    private static void feeding() {
        says("feed: (n 1 to 4): how many it has. BEYOND: n. FULL");
        NameRail x = new NameRail();
        due(BEYOND, x.feed(0, 0));
        due(BEYOND, x.feed(0, 5));
        due(0, x.count(5));
        int had = 0;
        for (int n = 1; n <= 4; n++) {
            had += n;
            due(had, x.feed(-1, n));
        }
        says("THE TAPE (bytes, at most 120)");
        for (int n = 1; n <= 4; n++) {
            NameRail y = new NameRail();
            for (int i = 0; i < 29; i++) {
                y.feed(0, 4);
            }
            if (n < 4) {
                due(120 - n, y.feed(0, 4 - n));
            }
            for (int more = n + 1; more <= 4; more++) {
                due(FULL, y.feed(0, more));
            }
            due(120 - n, y.count(5));
            due(120, y.feed(0, n));
            for (int more = 1; more <= 4; more++) {
                due(FULL, y.feed(0, more));
            }
            due(BEYOND, y.feed(0, 0));
            due(BEYOND, y.feed(0, 5));
            due(120, y.count(5));
            says("wipe: THE TAPE is empty: how many it had");
            due(120, y.wipe());
            due(0, y.count(5));
            due(0, y.wipe());
            due(4, y.feed(0, 4));
            due(4, y.wipe());
        }
    }

    private static void bytesFed() {
        says("feed: the n lowest bytes of a number, the highest of these first");
        NameRail x = new NameRail();
        x.feed(0x6f726465, 4);
        x.feed(0xffff7237, 2);
        x.feed(0xffffff31, 1);
        x.feed(0xff392020, 3);
        due(1, x.text());
        due(719, x.now(5));
        says("bytes: of 128 to 255, too");
        for (int b = 128; b < 256; b += 127) {
            NameRail y = new NameRail();
            feed(y, "order 5");
            y.feed(b, 1);
            due(-1 - 7, y.text());
            y.feed(b << 24 | 0x202020, 4);
            due(-1 - 0, y.text());
        }
    }

    private static void fault(int place, String text) {
        NameRail x = railOf(2, 1);
        due(-1 - place, read(x, text));
        due(0, x.count(5));
        due(2, x.count(1));
        due(600, x.count(4));
        due(0, x.now(5));
        due(-1, x.personOf(0, 1));
        due(0, x.status(-1));
    }

    private static void well(int items, String text) {
        NameRail x = railOf(2, 1);
        due(items, read(x, text));
        due(0, x.count(5));
        due(0, x.status(-1));
    }

    private static void tokens() {
        says("TOKENS, each as long as can be: WORDS (letters a to z)");
        well(1, "name1");
        well(1, "name1worn2against1");
        well(1, "person0purse1wishes0");
        well(3, "order1;order2;order3");
        fault(5, "name1wornagainst1");
        fault(0, "names1");
        fault(0, "nam e1");
        fault(0, "nameorder1");
        fault(5, "name1wor 1");
        fault(5, "name1worns1");
        fault(0, "orderorder 1");
        says("a byte that begins no TOKEN");
        for (char c : new char[] {0, 1, 9, 10, 13, 31, '!', '+', '-', '.', '/', ':', '<', '@', 'A', 'Z', '[', '_', '`', '{', '~', 127, 128, 160, 255}) {
            fault(0, c + "order 1");
            fault(5, "order" + c + "1");
            fault(7, "order 1" + c);
            fault(7, "order 1" + c + ";order 2");
            fault(3, "   " + c);
            fault(6, "order " + c + "1");
        }
        fault(0, "Order 1");
        fault(0, "ORDER 1");
        fault(0, "oRder 1");
        says("the place of the first byte of the first TOKEN that can't stand there");
        fault(6, "order ; order 1");
        fault(8, "order 1 1");
        fault(8, "order 1 ,");
        fault(8, "order 1 order 2");
        fault(0, "1 order 1");
        fault(0, ";");
        fault(1, " ;order 1");
    }

    private static void blanks() {
        says("blanks may stand between");
        well(2, "name   1   worn   2   against   1   ;   order   3");
        well(1, "person 0   purse 1   wishes 0");
        well(1, "order 1 ");
        well(1, " order 1");
        says("no blanks within a TOKEN");
        fault(8, "order 7 1");
        fault(0, "or der 1");
    }

    private static void numbers() {
        says("a NUMBER (DUTY, 0 to 99)");
        well(1, "name 0");
        well(1, "name 99");
        fault(5, "name 100");
        fault(5, "name 999");
        says("worn and a NUMBER (WEAR, 0 to 99)");
        well(1, "name 1 worn 0");
        well(1, "name 1 worn 99");
        fault(12, "name 1 worn 100");
        says("person, a NUMBER (0 to 5)");
        well(1, "person 0");
        well(1, "person 5");
        fault(7, "person 6");
        fault(7, "person 10");
        says("purse and a NUMBER (0 to 9999)");
        well(1, "person 1 purse 0");
        well(1, "person 1 purse 9999");
        fault(15, "person 1 purse 10000");
        says("order, a NUMBER (0 to 719)");
        well(1, "order 0");
        well(1, "order 719");
        fault(6, "order 720");
        fault(6, "order 9999");
    }

    private static void numbersTooLong() {
        says("NUMBERS (digits, 9999 at most)");
        for (String told : new String[] {"10000", "10001", "65536", "65541", "4294967296", "4294967301", "2147483648",
            "18446744073709551616", "18446744073709551621", "99999999999999999999999999999999999999999999999999999999"}) {
            fault(15, "person 1 purse " + told);
            fault(5, "name " + told);
            fault(12, "name 1 worn " + told);
            fault(15, "name 1 against " + told);
            fault(7, "person " + told);
            fault(16, "person 1 wishes " + told);
            fault(6, "order " + told);
        }
        says("NUMBERS are told by their value");
        NameRail x = railOf(2, 1);
        due(4, read(x, "name 007 worn 0000049;person 005 purse 009999;order 000719;person 0 wishes 00002"));
        due(7, x.of(2, 1));
        due(49, x.of(2, 2));
        due(9999, x.personOf(5, 0));
        due(719, x.now(5));
        due(2, x.personOf(0, 1));
    }

    private static void nameItems() {
        says("name, stretched, double, left, nobodys, mothy or torn: of these KINDS");
        String[] words = {"name", "stretched", "double", "left", "nobodys", "mothy", "torn"};
        NameRail x = new NameRail();
        for (int k = 0; k < 7; k++) {
            due(1, read(x, words[k] + " " + k));
            due(k, x.of(k, 0));
            due(k, x.of(k, 1));
            due(0, x.of(k, 2));
            due(0, x.of(k, 3));
            due(-1, x.of(k, 4));
        }
        says("perhaps worn, perhaps against: in this order, each once");
        NameRail y = railOf(1, 1);
        due(3, read(y, "torn 99 worn 99;left 0 against 1;mothy 5 worn 50 against 0"));
        int[][] told = {{TORN, 99, 99, 0, -1}, {LEFT, 0, 0, 0, 1}, {MOTHY, 5, 50, 0, 0}};
        for (int i = 0; i < 3; i++) {
            for (int what = 0; what < 5; what++) {
                due(told[i][what], y.of(i + 1, what));
            }
        }
        due(4, y.count(1));
        fault(17, "name 1 against 0 worn 1");
        fault(14, "name 1 worn 1 worn 1");
        fault(17, "name 1 against 0 against 1");
        fault(7, "name 1 purse 1");
        fault(7, "name 1 wishes 1");
        fault(12, "name 1 worn against 1");
        fault(12, "name 1 worn ;");
        fault(15, "name 1 against worn");
        fault(5, "name worn 1");
        fault(5, "name ;");
    }

    private static void ninthNames() {
        says("the WORD of a 9th NAME: its own");
        for (String word : new String[] {"name", "stretched", "double", "left", "nobodys", "mothy", "torn"}) {
            NameRail x = railOf(8, 1);
            due(-1 - 0, read(x, word + " 1"));
            due(-1 - 1, read(x, " " + word));
            due(-1 - 8, read(x, "order 5;" + word + " 100 worn"));
            due(0, x.now(5));
            due(8, x.count(1));
            NameRail y = railOf(7, 1);
            due(-1 - 8, read(y, "torn 99;" + word));
            due(7, y.count(1));
            due(1, read(y, word + " 1"));
            due(8, y.count(1));
        }
        NameRail all = new NameRail();
        due(8, read(all, "name1;name2;name3;name4;name5;name6;name7;name8"));
        due(8, all.count(1));
        NameRail none = new NameRail();
        due(-1 - 48, read(none, "name1;name2;name3;name4;name5;name6;name7;name8;name9"));
        due(0, none.count(1));
        due(2, read(railOf(8, 1), "person 0 wishes 7;order 3"));
    }

    private static void namesAlready() {
        says("against and a NUMBER (a NAME that is there already, FOE)");
        due(-1 - 15, read(new NameRail(), "name 1 against 0"));
        fault(15, "name 1 against 2");
        well(1, "name 1 against 1");
        NameRail x = new NameRail();
        due(2, read(x, "name 1;name 1 against 0"));
        due(0, x.of(1, 4));
        due(2, x.of(0, 8));
        due(-1 - 22, read(x, "name 1;name 1 against 4"));
        due(-1 - 15, read(x, "name 1 against 2;name 1"));
        due(2, x.count(1));
        due(2, read(x, "name 1 against 1;name 1 against 2"));
        due(1, x.of(2, 4));
        due(2, x.of(3, 4));
        says("wishes and a NUMBER (a NAME there by then)");
        due(-1 - 16, read(new NameRail(), "person 0 wishes 0"));
        due(-1 - 16, read(new NameRail(), "person 0 wishes 0;name 1"));
        fault(16, "person 0 wishes 2");
        NameRail y = new NameRail();
        due(2, read(y, "name 1;person 0 wishes 0"));
        due(0, y.personOf(0, 1));
        due(-1 - 23, read(y, "name 1;person 0 wishes 2"));
        due(3, read(y, "name 1;person 0 wishes 1;name 1"));
        due(1, y.personOf(0, 1));
    }

    private static void personItems() {
        says("person, perhaps purse, perhaps wishes: in this order, each once");
        NameRail x = railOf(2, 1);
        due(4, read(x, "person 0;person 1 purse 7;person 2 wishes 1;person 3 purse 0 wishes 0"));
        int[][] told = {{100, -1}, {7, -1}, {100, 1}, {0, 0}, {100, -1}, {100, -1}};
        for (int p = 0; p < 6; p++) {
            due(told[p][0], x.personOf(p, 0));
            due(told[p][1], x.personOf(p, 1));
        }
        fault(18, "person 0 wishes 0 purse 1");
        fault(17, "person 0 purse 1 purse 1");
        fault(18, "person 0 wishes 0 wishes 0");
        fault(9, "person 0 worn 1");
        fault(15, "person 0 purse wishes 0");
        fault(7, "person purse 1");
        fault(15, "person 0 purse ;");
        fault(16, "person 0 wishes ;");
        fault(9, "person 0 0");
    }

    private static void orderItems() {
        says("order: once");
        fault(8, "order 1 worn 1");
        fault(6, "order x");
        fault(6, "order name 1");
        says("all that it tells is so, item by item: the latest counts");
        NameRail x = new NameRail();
        due(4, read(x, "order 5;person 0 purse 5;order 6;person 0 purse 6"));
        due(6, x.now(5));
        due(6, x.personOf(0, 0));
    }

    private static void otherWords() {
        says("another WORD");
        for (String word : new String[] {"a", "z", "worn", "against", "purse", "wishes", "names", "orders", "persons", "dayz"}) {
            fault(0, word + " 1");
            fault(8, "order 1;" + word + " 1");
        }
        for (String word : new String[] {"name", "order", "person", "wor", "wornn", "purse", "wishes"}) {
            fault(7, "name 1 " + word + " 1");
        }
        for (String word : new String[] {"name", "order", "person", "worn", "against", "purses", "wish"}) {
            fault(9, "person 0 " + word + " 1");
        }
    }

    private static void tooEarly() {
        says("or how many bytes there are if it ends too early");
        String[] begun = {"", "name", "name 1 worn", "name 1 against", "name 1 worn 1 against", "person", "person 0 purse",
            "person 0 wishes", "person 0 purse 1 wishes", "order", "order 1;", "name 1;", "person 0;", "order 1;name",
            "order 1;order 2;order"};
        for (String text : begun) {
            fault(text.length(), text);
            fault(text.length() + 1, text + " ");
            fault(text.length() + 5, text + "     ");
        }
        says("a TEXT may end there");
        for (String text : new String[] {"name 1", "name 1 worn 1", "name 1 worn 1 against 1", "person 0", "person 0 purse 1",
            "person 0 wishes 1", "order 1"}) {
            well(1, text);
            well(1, text + "   ");
        }
    }

    private static String upTo(String text, int length) {
        StringBuilder told = new StringBuilder(text);
        while (told.length() < length) {
            told.insert(0, ' ');
        }
        return told.toString();
    }

    private static void fullTapes() {
        says("THE TAPE (bytes, at most 120): a TEXT that fills it");
        for (int length = 118; length <= 120; length++) {
            well(1, upTo("order 5", length));
            well(2, upTo("name 1;person 0 purse 9999", length));
            fault(length, upTo("order", length));
            fault(length, upTo("order 5;", length));
            fault(length, upTo("", length));
            fault(length - 1, upTo("order 5:", length));
            fault(length - 3, upTo("order 720", length));
            fault(length - 6, upTo("orderz", length));
        }
        NameRail x = new NameRail();
        due(17, read(x, "order1;order2;order3;order4;order5;order6;order7;order8;order9;order1;order2;order3;order4;"
                + "order5;order6;order7;order99"));
        due(99, x.now(5));
        StringBuilder digits = new StringBuilder("order ");
        while (digits.length() < 119) {
            digits.append('0');
        }
        due(1, read(x, digits + "7"));
        due(7, x.now(5));
        fault(0, "abcdefghijklmnopqrstuvwxyzabcdefghijklmnopqrstuvwxyzabcdefghijklmnopqrstuvwxyzabcdefghijklmnopqrstuvwxyz"
                + "abcdefghijklmnop");
        // No FAULT is as low as a finding: the lowest is -121.
        due(-121, read(x, upTo("", 120)));
    }

    private static void allOrNothing() {
        says("With a FAULT: nothing changes but that THE TAPE is empty; no finding");
        NameRail x = railOf(2, 1);
        x.order(9);
        x.image();
        due(-1 - 76, read(x, "torn 9 worn 60 against 0;person 0 purse 5 wishes 2;order 700;person 5 purse 99999"));
        due(2, x.count(1));
        due(2, x.count(2));
        due(0, x.of(0, 8));
        due(100, x.personOf(0, 0));
        due(-1, x.personOf(0, 1));
        due(9, x.now(5));
        due(0, x.count(5));
        due(0, x.status(-1));
        due(BEYOND, x.of(2, 0));
        says("THE TAPE is a TEXT, and empty then");
        due(1, read(x, "order 8"));
        due(0, x.count(5));
        due(-1, x.text());
        due(8, x.now(5));
    }

    private static void spots() {
        says("SPOTS 0 to 9 hold a NAME or nothing (at first)");
        NameRail x = railOf(8, 1);
        for (int spot = 0; spot < 10; spot++) {
            due(MISSING, x.as(spot, 0));
            due(spot, x.count(7));
            due(1, x.hold(spot, spot % 8));
            due(spot % 8, x.as(spot, 0));
        }
        due(10, x.count(7));
        due(BEYOND, x.hold(10, 0));
        due(BEYOND, x.hold(-1, 0));
        due(BEYOND, x.hold(0, 8));
        due(BEYOND, x.hold(0, -2));
        due(0, x.as(0, 0));
        says("or nothing (-1)");
        due(1, x.hold(0, -1));
        due(1, x.hold(0, -1));
        due(MISSING, x.as(0, 0));
        due(9, x.count(7));
        says("MISSING: it holds nothing: asked behind BEYOND");
        due(BEYOND, x.as(0, 7));
        due(BEYOND, x.as(0, -1));
        due(BEYOND, x.as(10, 0));
        due(BEYOND, x.as(-1, 0));
        says("two SPOTS may hold one NAME");
        due(1, x.hold(1, 7));
        due(1, x.hold(2, 7));
        due(7, x.as(1, 0));
        due(7, x.as(2, 0));
        says("no NAME is there: BEYOND");
        due(BEYOND, new NameRail().hold(0, 0));
        due(1, new NameRail().hold(9, -1));
    }

    private static void kindsUnder() {
        says("KIND: it isn't of that kind, nor of one under it");
        boolean[][] is = new boolean[7][7];
        int[] above = {-1, NAME, NAME, DOUBLE, LEFT, NAME, STRETCHED};
        for (int k = 0; k < 7; k++) {
            for (int up = k; up >= 0; up = above[up]) {
                is[k][up] = true;
            }
        }
        NameRail x = railOf(3, 1);
        x.hold(4, 2);
        for (int k = 0; k < 7; k++) {
            x.change(2, 0, k);
            for (int as = 0; as < 7; as++) {
                due(is[k][as] ? 2 : KIND, x.as(4, as));
            }
        }
    }

    /** How many numbers a sheet has, told by what can be written. */
    private static int length(NameRail x, int s) {
        int n = 0;
        while (n < 50 && x.write(s, n, 0) == 1) {
            n++;
        }
        return n;
    }

    private static void sheets() {
        says("sheet: SHEETS 0 to 3: rows of at most 40 numbers of 8, 16 or 32 bits");
        NameRail x = new NameRail();
        for (int s = 0; s < 4; s++) {
            int[] bits = {8, 16, 32, 8};
            int[] n = {0, 1, 39, 40};
            due(n[s], x.sheet(s, bits[s], n[s]));
            due(n[s], length(x, s));
        }
        says("SIZE: n is below 0 (also with bits 0). BEYOND: n is above 40 (also with bits 0)");
        for (int bits : new int[] {0, 8, 16, 32}) {
            due(SIZE, x.sheet(3, bits, -1));
            due(BEYOND, x.sheet(3, bits, 41));
        }
        due(BEYOND, x.sheet(4, 8, -1));
        due(BEYOND, x.sheet(3, 12, -1));
        due(40, length(x, 3));
        says("bits 0: it is MISSING: n (0 if it is MISSING)");
        due(0, x.sheet(3, 0, 0));
        due(MISSING, x.load(3));
        due(40, x.sheet(3, 8, 40));
        due(0, x.sheet(3, 0, 40));
        due(MISSING, x.write(3, 0, 0));
        says("A sheet has n numbers, all 0");
        NameRail y = new NameRail();
        tell(y, 0, 32, 1, 2, 3, 4, 5, 6, 7);
        due(3, y.sheet(0, 32, 3));
        due(3, y.load(0));
        for (int p = 0; p < 6; p++) {
            due(p < 3 ? 0 : 100, y.personOf(p, 0));
        }
        tell(y, 0, 32, 1, 2, 3, 4, 5, 6, 7);
        y.sheet(0, 0, 0);
        y.sheet(0, 16, 7);
        due(6, y.load(0));
        due(0, y.now(2));
        due(1, y.copy(0, 6, 0, 0, 1));
        due(6, y.load(0));
        due(0, y.personOf(0, 0));
        says("a sheet of 0 numbers isn't MISSING");
        due(0, y.sheet(1, 8, 0));
        due(0, y.load(1));
        due(0, y.judge(1));
        due(BEYOND, y.write(1, 0, 0));
    }

    /** Number 0 of a sheet, written as v, is what? Told by fits: -1 fits any PURSE. */
    private static void holds(int bits, int v, int want) {
        NameRail x = railOf(8, 0);
        tell(x, 0, bits, v);
        boolean isPurse = want >= 0 && want <= 9999;
        due(isPurse ? 1 : 0, x.load(0));
        if (isPurse) {
            due(want, x.personOf(0, 0));
        }
        x.person(0, 0, 100);
        due(want == -1 || want == 100 ? 9 : 0, x.fits(0, 0));
        x.change(0, 2, 50);
        x.change(1, 2, 50);
        x.change(2, 2, 50);
        for (int i = 3; i < 8; i++) {
            x.change(i, 2, 50);
        }
        due(want == -1 ? 0 : 1, x.judge(0));
    }

    private static void written() {
        says("told with their sign: of 8 bits 255 is -1");
        int[][] eights = {{0, 0}, {1, 1}, {127, 127}, {128, -128}, {200, -56}, {255, -1}, {256, 0}, {257, 1}, {-1, -1}, {-128, -128},
            {-129, 127}, {-256, 0}, {383, 127}, {511, -1}, {Integer.MAX_VALUE, -1}, {Integer.MIN_VALUE, 0}};
        for (int[] e : eights) {
            holds(8, e[0], e[1]);
        }
        int[][] sixteens = {{100, 100}, {255, 255}, {256, 256}, {9999, 9999}, {10000, 10000}, {32767, 32767}, {32768, -32768}, {65535, -1},
            {65536, 0}, {65636, 100}, {-1, -1}, {-65536, 0}, {-65436, 100}, {Integer.MAX_VALUE, -1}, {Integer.MIN_VALUE, 0}};
        for (int[] e : sixteens) {
            holds(16, e[0], e[1]);
        }
        for (int v : new int[] {0, 100, 255, 9999, 10000, 65535, 65536, 65636, -1, -2, -65436, Integer.MAX_VALUE, Integer.MIN_VALUE}) {
            holds(32, v, v);
        }
        says("write: BEYOND: no such sheet. MISSING. BEYOND: no such number");
        NameRail x = new NameRail();
        due(BEYOND, x.write(4, 0, 0));
        due(MISSING, x.write(0, 40, 0));
        x.sheet(0, 8, 40);
        due(1, x.write(0, 39, 1));
        due(BEYOND, x.write(0, 40, 1));
        due(BEYOND, x.write(0, -1, 1));
        x.sheet(0, 8, 2);
        due(1, x.write(0, 1, 1));
        due(BEYOND, x.write(0, 2, 1));
    }

    private static void numbersAre(NameRail x, int s, int... want) {
        due(want.length, x.load(s));
        for (int p = 0; p < want.length; p++) {
            due(want[p], x.personOf(p, 0));
        }
    }

    private static void copies() {
        says("copy: BEYOND: one has not so many, or from, to or n is below 0");
        NameRail x = new NameRail();
        tell(x, 0, 16, 1, 2, 3, 4, 5);
        tell(x, 1, 16, 6, 7, 8);
        due(3, x.copy(0, 2, 1, 0, 3));
        numbersAre(x, 1, 3, 4, 5);
        due(BEYOND, x.copy(0, 3, 1, 0, 3));
        due(BEYOND, x.copy(0, 4, 1, 0, 2));
        due(BEYOND, x.copy(0, 4, 1, 0, 3));
        due(BEYOND, x.copy(0, 5, 1, 0, 1));
        due(BEYOND, x.copy(0, 0, 1, 1, 3));
        due(BEYOND, x.copy(0, 0, 1, 2, 2));
        due(BEYOND, x.copy(0, 0, 1, 3, 1));
        due(BEYOND, x.copy(0, 0, 1, 0, 4));
        due(BEYOND, x.copy(1, 0, 0, 0, 4));
        due(BEYOND, x.copy(0, -1, 1, 0, 2));
        due(BEYOND, x.copy(0, 1, 1, -1, 2));
        due(BEYOND, x.copy(0, 1, 1, 1, -1));
        due(BEYOND, x.copy(0, Integer.MAX_VALUE, 1, 0, 1));
        due(BEYOND, x.copy(0, 0, 1, Integer.MAX_VALUE, 1));
        due(BEYOND, x.copy(0, Integer.MAX_VALUE, 1, Integer.MAX_VALUE, Integer.MAX_VALUE));
        due(BEYOND, x.copy(0, 1, 1, 1, Integer.MAX_VALUE));
        due(BEYOND, x.copy(0, 1, 1, 1, Integer.MIN_VALUE));
        numbersAre(x, 1, 3, 4, 5);
        numbersAre(x, 0, 1, 2, 3, 4, 5);
        due(1, x.copy(0, 4, 1, 2, 1));
        due(1, x.copy(0, 0, 1, 0, 1));
        numbersAre(x, 1, 1, 4, 5);
        says("n numbers: none");
        due(0, x.copy(0, 0, 1, 0, 0));
        due(0, x.copy(0, 5, 1, 3, 0));
        due(BEYOND, x.copy(0, 6, 1, 0, 0));
        due(BEYOND, x.copy(0, 0, 1, 4, 0));
        numbersAre(x, 1, 1, 4, 5);
        says("come to another one (as they all were)");
        due(4, x.copy(0, 0, 0, 1, 4));
        numbersAre(x, 0, 1, 1, 2, 3, 4);
        due(4, x.copy(0, 1, 0, 0, 4));
        numbersAre(x, 0, 1, 2, 3, 4, 4);
        due(5, x.copy(0, 0, 0, 0, 5));
        numbersAre(x, 0, 1, 2, 3, 4, 4);
        says("KIND: they are not of as many bits");
        for (int s = 0; s < 3; s++) {
            x.sheet(s, 8 << s, 1);
        }
        for (int s = 0; s < 3; s++) {
            for (int t = 0; t < 3; t++) {
                due(s == t ? 1 : KIND, x.copy(s, 0, t, 0, 1));
            }
            due(MISSING, x.copy(s, 0, 3, 0, 1));
            due(MISSING, x.copy(3, 0, s, 0, 1));
        }
        due(MISSING, x.copy(3, 0, 3, 0, 0));
        says("rows of at most 40 numbers");
        x.sheet(0, 8, 40);
        x.sheet(3, 8, 40);
        x.write(0, 39, 77);
        due(40, x.copy(0, 0, 3, 0, 40));
        due(1, x.copy(3, 39, 3, 0, 1));
        x.load(3);
        due(77, x.personOf(0, 0));
        due(BEYOND, x.copy(0, 0, 3, 0, 41));
    }

    private static void loads() {
        says("load: It ends at the first that isn't 0 to 9999, or for which there is nobody");
        int[][] rows = {{0, 1}, {9999, 1}, {10000, 0}, {-1, 0}, {Integer.MIN_VALUE, 0}, {Integer.MAX_VALUE, 0}};
        for (int[] r : rows) {
            for (int p = 0; p < 6; p++) {
                NameRail x = new NameRail();
                x.sheet(0, 32, 6);
                for (int i = 0; i < 6; i++) {
                    x.write(0, i, i == p ? r[0] : 50 + i);
                }
                due(r[1] == 1 ? 6 : p, x.load(0));
                for (int i = 0; i < 6; i++) {
                    int told = i == p ? r[0] : 50 + i;
                    due(r[1] == 1 || i < p ? told : 100, x.personOf(i, 0));
                }
                due(0, x.status(-1));
            }
        }
        for (int n = 0; n <= 8; n++) {
            NameRail x = new NameRail();
            x.sheet(0, 8, n);
            due(Math.min(n, 6), x.load(0));
            due(600 - 100 * Math.min(n, 6), x.now(2));
        }
    }

    private static void judges() {
        says("judge: 0 if so; else 1 and the place of the first that isn't so");
        NameRail x = railOf(4, 1);
        int[] drawn = {0, 1, 2, 3, -1, -1};
        tell(x, 0, 8, drawn);
        due(0, x.judge(0));
        for (int p = 5; p >= 0; p--) {
            for (int v : new int[] {drawn[p] + 1, drawn[p] - 1, 7, 100, -100}) {
                x.write(0, p, v);
                due(1 + p, x.judge(0));
            }
        }
        says("the NAMES that PEOPLE 0, 1, .. draw now (-1: none)");
        NameRail none = new NameRail();
        tell(none, 0, 32, -1, -1, -1, -1, -1, -1);
        due(0, none.judge(0));
        tell(none, 0, 8, 255, 255, 255, 255, 255, 255);
        due(0, none.judge(0));
        tell(none, 0, 16, 65535, 255);
        due(2, none.judge(0));
        tell(none, 0, 32, 0);
        due(1, none.judge(0));
        says("numbers of a sheet: there is nobody for a 7th one, and none of 0 numbers is wrong");
        tell(none, 0, 32, -1, -1, -1, -1, -1, -1, -1);
        due(7, none.judge(0));
        none.sheet(0, 8, 0);
        due(0, none.judge(0));
        due(BEYOND, none.judge(4));
        due(MISSING, none.judge(1));
    }

    private static void images() {
        says("undo: NONE: nothing is kept");
        NameRail x = railOf(2, 1);
        due(NONE, x.undo());
        due(1, x.status(3));
        says("image: All but THE TAPE and SHEETS is kept");
        tell(x, 0, 8, 1, 2);
        feed(x, "abc");
        x.hold(0, 1);
        due(1, x.image());
        tell(x, 0, 8, 3, 4);
        x.sheet(1, 16, 4);
        x.feed(0, 1);
        x.hold(0, -1);
        x.hold(9, 0);
        due(0, x.undo());
        due(4, x.count(5));
        due(1, x.as(0, 0));
        due(1, x.count(7));
        due(2, x.load(0));
        due(3, x.personOf(0, 0));
        due(4, x.load(1));
        says("status: undo() takes none back");
        due(1, x.status(-1));
        x.go(0);
        x.undo();
        due(2, x.status(-1));
        says("what was kept latest (which stays): DAY");
        x.go(7);
        due(0, x.undo());
        x.go(7);
        due(1, x.image());
        x.go(9);
        due(7, x.undo());
        due(7, x.undo());
        x.go(60);
        due(7, x.undo());
        due(7, x.now(0));
        says("an image of no NAMES");
        NameRail y = new NameRail();
        y.image();
        y.name(NAME, 1);
        y.person(0, 1, 0);
        y.hold(0, 0);
        y.change(0, 2, 99);
        y.seed(9);
        due(0, y.undo());
        due(0, y.count(1));
        due(0, y.count(7));
        due(1, y.count(6));
        due(-1, y.personOf(0, 1));
        due(MISSING, y.as(0, 0));
    }

    private static void tears() {
        says("tear: Nothing is kept: 1 if something was, else 0");
        NameRail x = new NameRail();
        due(0, x.tear());
        x.image();
        x.image();
        due(1, x.tear());
        due(0, x.tear());
        due(NONE, x.undo());
        x.image();
        x.undo();
        due(1, x.tear());
        due(NONE, x.undo());
        due(2, x.status(3));
    }

    private static void counts() {
        says("count: BEYOND: another what");
        NameRail x = railOf(8, 0);
        due(BEYOND, x.count(8));
        due(BEYOND, x.count(-1));
        says("count: 1 NAMES, 2 those that HANG, 5 bytes of THE TAPE, 7 SPOTS that hold something");
        for (int i = 0; i < 8; i++) {
            due(8 - i, x.count(2));
            x.change(i, 2, 50);
            x.hold(i, 7 - i);
        }
        int[] told = {0, 8, 0, 0, 600, 0, 1, 8};
        for (int what = 0; what < 8; what++) {
            due(told[what], x.count(what));
        }
        says("of all together");
        for (int p = 0; p < 6; p++) {
            x.person(p, 0, p == 0 ? 9999 : 0);
        }
        due(9999, x.count(4));
        due(9999, x.now(2));
        for (int i = 0; i < 8; i++) {
            x.change(i, 3, 99999);
        }
        due(799992, x.now(3));
    }
}
