/**
 * The bounds that 512 calls can't reach (60 DAYS a call, six QUARRELS a DAY at most). What later calls answer is free;
 * NameRail counts no calls, so these sentences are held to by longer runs.
 */
public final class LongRunTest extends Rails {
    public static void main(String[] args) {
        daysByGo();
        daysByMoths();
        willBeAtTheEnd();
        quarrels();
        end("the bounds beyond 512 calls hold");
    }

    private static NameRail at(int day) {
        NameRail x = new NameRail();
        for (int left = day; left > 0; left -= 60) {
            x.go(Math.min(60, left));
        }
        due(day, x.now(0));
        x.name(NAME, 1);
        return x;
    }

    private static void daysByGo() {
        says("go: STATE: DAY would be above 99999");
        NameRail x = at(99939);
        due(550, x.go(60));
        due(99999, x.now(0));
        due(STATE, x.go(1));
        due(STATE, x.go(60));
        due(BEYOND, x.go(0));
        due(BEYOND, x.go(61));
        due(99999, x.count(0));
        due(2, x.status(4));
        NameRail y = at(99940);
        due(STATE, y.go(60));
        due(99940, y.now(0));
        due(100, y.personOf(0, 0));
        due(550, y.go(59));
        due(STATE, y.go(1));
        due(99999, y.now(0));
    }

    private static void daysByMoths() {
        says("moths: STATE: DAY would be above 99999");
        NameRail x = at(99979);
        due(1, x.moths(20));
        due(99999, x.now(0));
        int z = x.count(6);
        due(STATE, x.moths(1));
        due(STATE, x.moths(20));
        due(BEYOND, x.moths(0));
        due(BEYOND, x.moths(21));
        due(z, x.count(6));
        NameRail y = at(99980);
        due(STATE, y.moths(20));
        due(99980, y.now(0));
        due(1, y.count(6));
        due(0, y.of(0, 2));
        due(1, y.moths(19));
        due(99999, y.now(0));
    }

    private static void willBeAtTheEnd() {
        says("what will be (nothing changes): DAY is no bound for what is asked");
        NameRail x = at(99999);
        due(90, x.ahead(0, 10));
        due(50, x.ahead(0, 100));
        due(50, x.lasts(0));
        due(50, x.often(0, 0, 100));
        due(99999, x.now(0));
        says("undo: DAY");
        x.image();
        due(99999, x.undo());
    }

    private static void quarrels() {
        says("QUARRELS are more by how many pairs quarrel (99999 at most)");
        NameRail x = railOf(6, 0);
        for (int i = 0; i < 6; i++) {
            x.change(i, 4, (i + 1) % 6);
        }
        for (int told = 0; told < 99900; told += 300) {
            due(told, x.now(4));
            x.go(50);
            mendAll(x);
        }
        x.go(16);
        due(99996, x.now(4));
        x.go(1);
        due(99999, x.now(4));
        x.go(1);
        due(99999, x.now(4));
        due(99999, x.count(3));
    }

    private static void mendAll(NameRail x) {
        for (int i = 0; i < 6; i++) {
            x.change(i, 2, 0);
        }
    }
}
