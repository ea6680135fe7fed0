import java.io.IOException;
import java.lang.reflect.Constructor;
import java.lang.reflect.Field;
import java.lang.reflect.Method;
import java.lang.reflect.Modifier;
import java.nio.file.Files;
import java.nio.file.Path;
import java.util.List;
import java.util.Set;
import java.util.TreeSet;
import java.util.regex.Matcher;
import java.util.regex.Pattern;

/** What of LANGUAGE.md and the face can be seen without running a call. */
public final class LanguageTest {
    private static final String FACE = "name(int,int) of(int,int) change(int,int,int) person(int,int,int)"
            + " personOf(int,int) order(int) at(int,int) go(int) now(int) mend(int,int,int) wears(int) ahead(int,int)"
            + " owes(int,int) lasts(int) broke(int) often(int,int,int) kindFor(int) orderFor(int,int) orders(int,int)"
            + " cheapest() calmest() best(int,int) wishFor(int,int) peace() peaceful(int) groups() mendFor(int)"
            + " without(int) fits(int,int) wish(int,int) moths(int) odds(int,int) seed(int) feed(int,int) wipe() text()"
            + " hold(int,int) as(int,int) sheet(int,int,int) write(int,int,int) copy(int,int,int,int,int) load(int)"
            + " judge(int) image() undo() tear() count(int) status(int)";
    private static final String FORBIDDEN = "\\b(throw|throws|try|catch|finally|synchronized|assert|import|package|native|"
            + "volatile|transient|yield|var|equals|hashCode|toString|Object|Class|Thread|Random|Runtime|\\w+Exact|MAX_VALUE|"
            + "MIN_VALUE)\\b|->|::|\\?\\s*>|@";
    private static final Set<String> LIBRARY = Set.of("System.arraycopy", "Math.min", "Math.max", "Integer.bitCount");

    private static int wrong = 0;

    public static void main(String[] args) throws IOException {
        face();
        for (Class<?> inside : NameRail.class.getDeclaredClasses()) {
            demand(Modifier.isStatic(inside.getModifiers()), inside + " is static");
            demand(!Modifier.isPublic(inside.getModifiers()) && !Modifier.isProtected(inside.getModifiers()),
                    inside + " is private or package-visible");
            fields(inside);
        }
        fields(NameRail.class);
        source(Files.readString(Path.of("src/main/java/NameRail.java")));
        System.out.println(wrong == 0 ? "the language is kept" : wrong + " rules are not kept");
        if (wrong != 0) {
            System.exit(1);
        }
    }

    private static void demand(boolean right, String rule) {
        if (!right) {
            wrong++;
            System.out.println("not so: " + rule);
        }
    }

    private static void face() {
        Set<String> due = new TreeSet<>(List.of(FACE.split(" ")));
        Set<String> got = new TreeSet<>();
        for (Method m : NameRail.class.getDeclaredMethods()) {
            if (Modifier.isPrivate(m.getModifiers())) {
                demand(!FACE.matches("(.* )?" + m.getName() + "\\(.*"), m + " bears no public name");
                continue;
            }
            demand(m.getModifiers() == Modifier.PUBLIC, m + " is public and no more");
            demand(m.getReturnType() == (m.getName().equals("odds") ? long.class : int.class), m + " has its type");
            StringBuilder told = new StringBuilder(m.getName()).append('(');
            for (Class<?> type : m.getParameterTypes()) {
                told.append(told.charAt(told.length() - 1) == '(' ? "" : ",").append(type);
            }
            got.add(told.append(')').toString());
        }
        demand(due.equals(got), "the public methods are the document's: " + got);
        demand(NameRail.class.getModifiers() == (Modifier.PUBLIC | Modifier.FINAL), "the class is public and final");
        Constructor<?>[] all = NameRail.class.getDeclaredConstructors();
        demand(all.length == 1 && all[0].getParameterCount() == 0 && all[0].getModifiers() == Modifier.PUBLIC,
                "there is one public constructor");
    }

    private static void fields(Class<?> where) {
        int own = 0;
        for (Field f : where.getDeclaredFields()) {
            boolean isStatic = Modifier.isStatic(f.getModifiers());
            demand(where != NameRail.class || Modifier.isPrivate(f.getModifiers()), f + " is private");
            demand(!isStatic || Modifier.isFinal(f.getModifiers()), f + " is final");
            own += isStatic ? 0 : 1;
        }
        demand(own <= 20, where + " has at most twenty fields");
    }

    private static void source(String told) {
        String code = told.replaceAll("(?s)/\\*.*?\\*/", " ").replaceAll("//[^\n]*", "")
                .replaceAll("\"[^\"\n]*\"", "\"\"");
        Matcher m = Pattern.compile(FORBIDDEN).matcher(code);
        while (m.find()) {
            demand(false, "no " + m.group());
        }
        m = Pattern.compile("\\b(?:System|Math|Integer|Long|Arrays|String|StringBuilder)\\.\\w+").matcher(code);
        while (m.find()) {
            demand(LIBRARY.contains(m.group()), m.group() + " is listed");
        }
        demand(told.chars().allMatch(c -> c < 127), "all signs are below 127");
        // All that a run makes is made by the constructor: new stands in fields and in the one loop over sheets.
        m = Pattern.compile("(?m)^(.*)\\bnew\\b").matcher(code);
        while (m.find()) {
            demand(m.group(1).matches(".*final .*= |\\s+sheets\\[s\\] = "), "made once: " + m.group());
        }
        methodLengths(code);
    }

    private static void methodLengths(String code) {
        int begun = -1;
        int line = 0;
        for (String text : code.split("\n", -1)) {
            line++;
            if (text.matches(" {4}(?: {4})?[\\w<].*\\) \\{") && begun < 0) {
                begun = line;
            } else if (text.matches(" {4}(?: {4})?\\}")) {
                demand(begun < 0 || line - begun < 60, "the method of line " + begun + " is short");
                begun = -1;
            }
        }
    }
}
