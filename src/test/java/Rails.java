/** What tests share: the findings, objects made ready, and answers held against those that are due. */
abstract class Rails {
    static final int BEYOND = -1000001;
    static final int FULL = -1000002;
    static final int KIND = -1000003;
    static final int NONE = -1000004;
    static final int STATE = -1000005;
    static final int MISSING = -1000006;
    static final int SIZE = -1000007;

    static final int NAME = 0;
    static final int STRETCHED = 1;
    static final int DOUBLE = 2;
    static final int LEFT = 3;
    static final int NOBODYS = 4;
    static final int MOTHY = 5;
    static final int TORN = 6;

    private static String sentence = "";
    private static int wrong = 0;

    /** The sentence of the document that the answers below it hold to. */
    static void says(String told) {
        sentence = told;
    }

    static void due(long want, long got) {
        if (want != got) {
            wrong++;
            StringBuilder lines = new StringBuilder();
            StackTraceElement[] calls = new Throwable().getStackTrace();
            for (int i = 1; i < calls.length - 1; i++) {
                lines.append(i == 1 ? "line " : " of line ").append(calls[i].getLineNumber());
            }
            System.out.println(lines + ": answered " + got + ", due is " + want
                    + ", for the document says: " + sentence);
        }
    }

    static void end(String well) {
        System.out.println(wrong == 0 ? well : wrong + " answers are not as due");
        if (wrong != 0) {
            System.exit(1);
        }
    }

    static NameRail rail(int... kindsAndDuties) {
        NameRail x = new NameRail();
        for (int i = 0; i + 1 < kindsAndDuties.length; i += 2) {
            x.name(kindsAndDuties[i], kindsAndDuties[i + 1]);
        }
        return x;
    }

    /** So many NAMES, of one DUTY. */
    static NameRail railOf(int names, int duty) {
        NameRail x = new NameRail();
        for (int i = 0; i < names; i++) {
            x.name(NAME, duty);
        }
        return x;
    }

    static void feed(NameRail x, String text) {
        for (int i = 0; i < text.length(); i += 4) {
            int n = Math.min(4, text.length() - i);
            int bytes = 0;
            for (int j = 0; j < n; j++) {
                bytes = bytes << 8 | text.charAt(i + j);
            }
            x.feed(bytes, n);
        }
    }

    static int read(NameRail x, String text) {
        feed(x, text);
        return x.text();
    }

    static void tell(NameRail x, int s, int bits, int... numbers) {
        x.sheet(s, bits, numbers.length);
        for (int i = 0; i < numbers.length; i++) {
            x.write(s, i, numbers[i]);
        }
    }
}
