import java.lang.reflect.InvocationTargetException;
import java.lang.reflect.Method;
import java.util.ArrayList;
import java.util.HashMap;
import java.util.List;
import java.util.Map;

/** Runs of calls made by a fixed rule, each answer held against PlainRail's. */
public final class RandomRunsTest {
    private static final int RUNS = 3000;
    private static final int MOST_CALLS = 512;
    private static final Map<String, Method> OURS = new HashMap<>();
    private static final Map<String, Method> PLAIN = new HashMap<>();
    private static final List<String> CALLS = new ArrayList<>();
    private static final Map<String, Integer> ASKED = new HashMap<>();

    private static long state = 20261118L;
    private static int wrong = 0;

    private NameRail rail = new NameRail();
    private PlainRail plain = new PlainRail();
    private final StringBuilder story = new StringBuilder();
    private int made = 0;

    public static void main(String[] args) throws Exception {
        for (Method m : NameRail.class.getDeclaredMethods()) {
            if (java.lang.reflect.Modifier.isPublic(m.getModifiers())) {
                OURS.put(m.getName(), m);
                CALLS.add(m.getName());
            }
        }
        CALLS.sort(null);
        for (Method m : PlainRail.class.getDeclaredMethods()) {
            if (OURS.containsKey(m.getName())) {
                PLAIN.put(m.getName(), m);
            }
        }
        for (int run = 0; run < RUNS && wrong < 5; run++) {
            new RandomRunsTest().run(run);
        }
        for (String call : CALLS) {
            if (ASKED.getOrDefault(call, 0) == 0) {
                wrong++;
                System.out.println("never asked: " + call);
            }
        }
        System.out.println(wrong == 0 ? "all runs are as the plain reading's" : wrong + " runs are not");
        if (wrong != 0) {
            System.exit(1);
        }
    }

    private static int below(int bound) {
        state = state * 6364136223846793005L + 1442695040888963407L;
        return (int) ((state >>> 33) % bound);
    }

    private static int between(int least, int most) {
        return least + below(most - least + 1);
    }

    private void run(int run) throws Exception {
        int seen = wrong;
        int calls = between(20, MOST_CALLS - 60);
        int names = below(9);
        for (int i = 0; i < names; i++) {
            call("name", below(7), below(3) == 0 ? below(100) : below(12));
        }
        boolean dear = below(6) == 0;
        while (made < calls && wrong == seen) {
            step(dear);
        }
        for (int which = -1; which <= 7 && wrong == seen; which++) {
            call("status", which);
        }
        if (wrong != seen) {
            System.out.println("run " + run + ":" + story);
        }
    }

    private void step(boolean dear) throws Exception {
        switch (below(24)) {
            case 0: feedText(); break;
            case 1: fitSheet(); break;
            case 2: judgeSheet(); break;
            case 3: loadSheet(); break;
            case 4: case 5: shuffleNames(); break;
            case 6: call("go", between(1, below(4) == 0 ? 60 : 8)); break;
            default:
                String name = CALLS.get(below(CALLS.size()));
                boolean isDear = List.of("best", "cheapest", "calmest", "orders", "orderFor").contains(name);
                if (!isDear || dear || below(30) == 0) {
                    call(name, arguments(name));
                }
        }
    }

    private int names() {
        return plain.count(1);
    }

    private void shuffleNames() throws Exception {
        int n = names();
        if (n > 0) {
            call("change", below(n), 4, between(-1, n - 1));
            call("change", below(n), 2, below(3) == 0 ? between(0, 99) : between(35, 52));
            call("person", below(6), 1, between(-1, n - 1));
            call("person", below(6), 0, below(3) == 0 ? below(40) : below(2000));
        }
        call("order", below(720));
    }

    private void fitSheet() throws Exception {
        int s = below(4);
        int person = below(6);
        int length = between(0, below(5) == 0 ? 40 : 8);
        call("sheet", s, below(2) == 0 ? 16 : 32, length);
        int was = plain.personOf(person, 1);
        call("person", person, 1, between(-1, names() - 1));
        for (int i = 0; i < length; i++) {
            boolean any = below(3) == 0;
            int off = below(20) == 0 ? 1 : 0;
            call("write", s, i, any ? -1 : plain.ahead(person, i) + off);
        }
        call("person", person, 1, was);
        call("fits", s, person);
        call("wish", s, person);
    }

    private void judgeSheet() throws Exception {
        int s = below(4);
        int length = between(0, 8);
        call("sheet", s, 8 << below(3), length);
        for (int i = 0; i < length; i++) {
            call("write", s, i, i < 6 && below(12) > 0 ? plain.wears(i) : between(-1, 7));
        }
        call("judge", s);
    }

    private void loadSheet() throws Exception {
        int s = below(4);
        int length = between(0, 8);
        call("sheet", s, 8 << below(3), length);
        for (int i = 0; i < length; i++) {
            int[] odd = {9999, 10000, -1, 0, 255, 128, 40000, 65536 + 7};
            call("write", s, i, below(3) == 0 ? odd[below(odd.length)] : below(400));
        }
        call("load", s);
        for (int p = 0; p < 6; p++) {
            call("personOf", p, 0);
        }
    }

    private void feedText() throws Exception {
        if (below(4) > 0) {
            call("wipe");
        }
        StringBuilder text = new StringBuilder();
        int items = between(1, 9);
        int there = names();
        for (int i = 0; i < items; i++) {
            text.append(i == 0 ? "" : blank() + ";" + blank());
            text.append(item(there + i));
        }
        if (below(3) == 0) {
            String odd = " ;09azZ\t\n\u00e9{`:/";
            int place = below(text.length() + 1);
            char c = odd.charAt(below(odd.length()));
            if (below(2) == 0 || place == text.length()) {
                text.insert(place, c);
            } else {
                text.setCharAt(place, c);
            }
        }
        if (below(8) == 0) {
            text.setLength(below(text.length() + 1));
        }
        for (int i = 0; i < text.length() && i < 124; ) {
            int n = Math.min(between(1, 4), text.length() - i);
            int bytes = below(5) == 0 && n < 4 ? 0x5a << 24 : 0;
            for (int j = 0; j < n; j++) {
                bytes |= (text.charAt(i + j) & 255) << (8 * (n - 1 - j));
            }
            call("feed", bytes, n);
            i += n;
        }
        call("text");
        for (int what = 0; what <= 7; what++) {
            call("count", what);
        }
    }

    private static String blank() {
        return below(4) == 0 ? " " : "";
    }

    private static String number(int most) {
        String zeros = below(10) == 0 ? "00000".substring(below(5)) : "";
        return blank() + zeros + (below(25) == 0 ? most + below(3) : below(most + 1)) + blank();
    }

    private static String item(int there) {
        String[] words = {"name", "stretched", "double", "left", "nobodys", "mothy", "torn"};
        int sort = below(12);
        if (sort < 7) {
            return words[sort] + number(99) + (below(3) == 0 ? "worn" + number(99) : "")
                    + (below(3) == 0 ? "against" + number(Math.max(0, Math.min(there, 8) - 1)) : "");
        }
        if (sort < 10) {
            return "person" + number(5) + (below(2) == 0 ? "purse" + number(9999) : "")
                    + (below(3) == 0 ? "wishes" + number(Math.max(0, Math.min(there, 8) - 1)) : "");
        }
        return sort == 10 ? "order" + number(719) : words[below(7)] + number(4) + " worn" + number(60);
    }

    private int from(int least, int most) {
        int dice = below(40);
        if (dice == 0) {
            int[] far = {Integer.MIN_VALUE, Integer.MAX_VALUE, -1, 256, 1 << 16, -(1 << 31) + 1};
            return far[below(far.length)];
        }
        if (dice <= 4) {
            int[] near = {least - 1, least, most, most + 1};
            return near[below(4)];
        }
        return least > most ? most : between(least, most);
    }

    private int[] arguments(String name) {
        int last = names() - 1;
        switch (name) {
            case "name": return new int[] {from(0, 6), from(0, 99)};
            case "of": return new int[] {from(0, last), from(0, 8)};
            case "change": return changeArguments(last);
            case "person": return personArguments(last);
            case "personOf": return new int[] {from(0, 5), from(0, 2)};
            case "order": return new int[] {from(0, 719)};
            case "at": return new int[] {from(0, 719), from(0, 5)};
            case "go": return new int[] {from(1, 60)};
            case "now": return new int[] {from(0, 5)};
            case "mend": return new int[] {from(0, last), from(0, 5), from(0, 99)};
            case "wears": case "broke": return new int[] {from(0, 5)};
            case "ahead": return new int[] {from(0, 5), from(0, 100)};
            case "owes": return new int[] {from(0, last), from(0, 100)};
            case "lasts": case "kindFor": return new int[] {from(0, last)};
            case "often": return new int[] {from(0, 5), from(0, last), from(0, 100)};
            case "orderFor": case "orders": return new int[] {from(0, 5), from(0, last)};
            case "best": return new int[] {from(0, 5), from(0, 10)};
            case "wishFor": return new int[] {from(0, 5), from(0, 60)};
            case "peaceful": return new int[] {from(0, 8)};
            case "mendFor": case "without": return new int[] {from(0, 60)};
            case "fits": case "wish": return new int[] {from(0, 3), from(0, 5)};
            case "moths": return new int[] {from(1, 20)};
            case "odds": return new int[] {from(0, 14), from(0, 1)};
            case "seed": return new int[] {below(2) == 0 ? from(0, 9) : below(1 << 30) * 4 + below(4)};
            case "feed": return new int[] {below(1 << 30) * 4 + below(4), from(1, 4)};
            case "hold": return new int[] {from(0, 9), from(-1, last)};
            case "as": return new int[] {from(0, 9), from(0, 6)};
            case "sheet": return new int[] {from(0, 3), below(10) == 0 ? from(7, 33) : 8 * (1 << below(3)) * (below(6) > 0 ? 1 : 0), from(0, 40)};
            case "write": return new int[] {from(0, 3), from(0, 20), below(1 << 30) * 4 + below(4)};
            case "copy": return new int[] {from(0, 3), from(0, 20), from(0, 3), from(0, 20), from(0, 20)};
            case "load": case "judge": return new int[] {from(0, 3)};
            case "count": return new int[] {from(0, 7)};
            case "status": return new int[] {from(-1, 6)};
            default: return new int[0];
        }
    }

    private int[] changeArguments(int last) {
        int what = from(0, 4);
        int[] most = {6, 99, 99, below(4) == 0 ? 99999 : 20, last};
        int v = what < 0 || what > 4 ? 0 : from(what == 4 ? -1 : 0, most[what]);
        return new int[] {from(0, last), what, v};
    }

    private int[] personArguments(int last) {
        int what = from(0, 1);
        return new int[] {from(0, 5), what, what == 0 ? from(0, below(2) == 0 ? 60 : 9999) : from(-1, last)};
    }

    private void call(String name, int... args) throws Exception {
        if (made >= MOST_CALLS) {
            return;
        }
        made++;
        ASKED.merge(name, 1, Integer::sum);
        Object[] given = new Object[args.length];
        StringBuilder told = new StringBuilder(name).append('(');
        for (int i = 0; i < args.length; i++) {
            given[i] = args[i];
            told.append(i == 0 ? "" : ", ").append(args[i]);
        }
        story.append(' ').append(told).append(')');
        try {
            Object due = PLAIN.get(name).invoke(plain, given);
            Object got = OURS.get(name).invoke(rail, given);
            if (!due.equals(got)) {
                wrong++;
                System.out.println(told + ") answered " + got + ", due is " + due);
            }
        } catch (InvocationTargetException e) {
            wrong++;
            System.out.println(told + ") threw " + e.getCause());
        }
    }
}
