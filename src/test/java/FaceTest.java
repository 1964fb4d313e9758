import java.lang.reflect.Constructor;
import java.lang.reflect.Field;
import java.lang.reflect.Method;
import java.lang.reflect.Modifier;
import java.nio.file.Files;
import java.nio.file.Path;
import java.util.ArrayList;
import java.util.List;
import java.util.Set;
import java.util.TreeSet;
import java.util.regex.Matcher;
import java.util.regex.Pattern;

/** The public face, what of LANGUAGE.md can be seen from outside or read off the source, and wild arguments. */
public final class FaceTest {
    private static final String[] FACE = {"int toll(int)", "int event(int,int)", "int eventOf(int,int)",
        "int worth(int,int)", "int one(int,int)", "int of(int,int)", "int set(int,int,int)", "int turn(int,int)",
        "int as(int,int)", "int gains(int,int,int)", "int cross(int)", "int tells(int,int)", "int hours(int)",
        "int now(int)", "int on(int,int,int)", "int learns(int,int)", "int first(int)", "int met(int)",
        "int broke(int)", "int clocks(int,int)", "int rich(int,int)", "int bears(int,int)", "int bank(int,int)",
        "int kind(int,int)", "int news(int,int)", "int needed(int)", "int sum(int,int)", "int feed(int,int)",
        "int wipe()", "int river()", "int sheet(int,int,int)", "long write(int,int,long)",
        "int copy(int,int,int,int,int)", "int lays(int)", "int book(int,int)", "int read(int,int)", "int image()",
        "int undo()", "int tear()", "int count(int)", "int status(int)"};
    private static final int[] WILD = {Integer.MIN_VALUE, Integer.MIN_VALUE + 1, -100, -1, 0, 1, 7, 8, 24, 40, 41, 72,
        99, 9999, Integer.MAX_VALUE - 1, Integer.MAX_VALUE};

    private static final Due due = new Due();

    public static void main(String[] args) throws Exception {
        face();
        classesInside();
        source(Files.readString(Path.of(args.length > 0 ? args[0] : "src/main/java/DayBehind.java")));
        wildArguments(new DayBehind());
        wildArguments(full());
        due.part("FaceTest");
        due.end();
    }

    private static void face() {
        due.part("face");
        Class<?> c = DayBehind.class;
        due.holds("public and final", Modifier.isPublic(c.getModifiers()) && Modifier.isFinal(c.getModifiers()));
        Constructor<?>[] made = c.getDeclaredConstructors();
        due.holds("one public constructor without arguments",
            made.length == 1 && Modifier.isPublic(made[0].getModifiers()) && made[0].getParameterCount() == 0);
        Set<String> open = new TreeSet<>();
        Set<String> openNames = new TreeSet<>();
        for (Method m : c.getDeclaredMethods()) {
            if (!Modifier.isPrivate(m.getModifiers()) && !m.isSynthetic()) {
                open.add(written(m));
                openNames.add(m.getName());
                due.holds(m.getName() + " is public, not static",
                    Modifier.isPublic(m.getModifiers()) && !Modifier.isStatic(m.getModifiers()));
            }
        }
        due.holds("just the document's methods: " + open, open.equals(new TreeSet<>(List.of(FACE))));
        noneOfTheNames(c, openNames);
        for (Class<?> inside : c.getDeclaredClasses()) {
            noneOfTheNames(inside, openNames);
        }
        for (Field f : c.getDeclaredFields()) {
            due.holds("field " + f.getName() + " is private", Modifier.isPrivate(f.getModifiers()));
        }
    }

    private static void noneOfTheNames(Class<?> c, Set<String> openNames) {
        for (Method m : c.getDeclaredMethods()) {
            boolean isOfTheFace = c == DayBehind.class && Modifier.isPublic(m.getModifiers());
            due.holds("no other method named " + m.getName(), isOfTheFace || !openNames.contains(m.getName()));
        }
    }

    private static String written(Method m) {
        List<String> types = new ArrayList<>();
        for (Class<?> t : m.getParameterTypes()) {
            types.add(t.getName());
        }
        return m.getReturnType().getName() + " " + m.getName() + "(" + String.join(",", types) + ")";
    }

    private static void classesInside() {
        due.part("classes inside");
        List<Class<?>> all = new ArrayList<>(List.of(DayBehind.class.getDeclaredClasses()));
        due.holds("at most twelve", all.size() + 1 <= 12);
        for (Class<?> c : all) {
            due.holds(c.getName() + " is static", Modifier.isStatic(c.getModifiers()));
            due.holds(c.getName() + " is not public or protected",
                !Modifier.isPublic(c.getModifiers()) && !Modifier.isProtected(c.getModifiers()));
        }
        all.add(DayBehind.class);
        for (Class<?> c : all) {
            int fields = 0;
            for (Field f : c.getDeclaredFields()) {
                boolean constant = Modifier.isStatic(f.getModifiers());
                fields += constant ? 0 : 1;
                due.holds(f + " is final if static", !constant || Modifier.isFinal(f.getModifiers()));
            }
            due.holds(c.getName() + " has at most twenty fields", fields <= 20);
            for (Method m : c.getDeclaredMethods()) {
                due.holds(m + " has at most seven parameters", m.getParameterCount() <= 7);
            }
        }
    }

    private static void source(String text) {
        due.part("source");
        String bare = text.replaceAll("(?s)/\\*.*?\\*/", "").replaceAll("//[^\n]*", "")
            .replaceAll("\"[^\"\n]*\"", "\"\"").replaceAll("'[^'\n]'", "' '");
        String[] ruledOut = {"\\bimport\\b", "\\bpackage\\b", "\\bthrows?\\b", "\\btry\\b", "\\bcatch\\b",
            "\\bsynchronized\\b", "\\bassert\\b", "->", "::", "Exact\\b", "\\bvar\\b", "\\bObject\\b",
            "System\\.(?!arraycopy)", "\\bjava\\.", "\\bstatic\\s*\\{", "\\bdouble\\b|\\bfloat\\b"};
        for (String p : ruledOut) {
            Matcher m = Pattern.compile(p).matcher(bare);
            due.holds("nothing like " + p, !m.find());
        }
        for (int i = 0; i < text.length(); i++) {
            if (text.charAt(i) > 126) {
                due.holds("plain signs alone, at " + i, false);
            }
        }
        Matcher m = Pattern.compile("(?m)^( +)(?:\\w+ )*\\w+\\(.*\\) \\{\n((?s:.*?))^\\1\\}").matcher(bare);
        int methods = 0;
        while (m.find()) {
            methods++;
            int lines = m.group(2).split("\n").length;
            String head = m.group().split("\n")[0].trim();
            due.holds("at most sixty lines: " + head, lines <= 60);
            boolean constructs = head.matches("(public )?[A-Z]\\w*\\(\\) \\{");
            due.holds("made by constructors alone: " + head, constructs || !m.group(2).matches("(?s).*\\bnew\\b.*"));
        }
        due.holds("methods were found", methods > 80);
    }

    private static DayBehind full() {
        DayBehind x = new DayBehind();
        for (int i = 0; i < 8; i++) {
            x.one(i % 6, i % 2);
            x.event(3 * i, 20 * i - 70);
            x.set(i, 3, i);
            x.set(i, 4, 3 * i);
        }
        for (int s = 0; s < 3; s++) {
            x.sheet(s, s == 0 ? 8 : 64, 40);
        }
        return x;
    }

    /** Each call with every row of wild arguments: it must answer, and nothing may be thrown. */
    private static void wildArguments(DayBehind x) throws Exception {
        due.part("wild arguments");
        for (Method m : DayBehind.class.getMethods()) {
            if (m.getDeclaringClass() != DayBehind.class) {
                continue;
            }
            int many = m.getParameterCount();
            int rows = many == 0 ? 1 : many == 1 ? 16 : many == 2 ? 256 : 1500;
            for (int row = 0; row < rows; row++) {
                Object[] a = new Object[many];
                long dice = row;
                for (int i = 0; i < many; i++) {
                    if (many > 2) {
                        dice = dice * 6364136223846793005L + 1442695040888963407L;
                    }
                    int v = WILD[(int) ((many > 2 ? dice >>> 40 : dice >> 4 * i) & 15)];
                    if (m.getParameterTypes()[i] == long.class) {
                        a[i] = (long) v << (row & 31);
                    } else {
                        a[i] = v;
                    }
                }
                answers(x, m, a);
            }
        }
    }

    private static void answers(DayBehind x, Method m, Object[] a) throws Exception {
        try {
            m.invoke(x, a);
        } catch (java.lang.reflect.InvocationTargetException e) {
            due.holds(m.getName() + java.util.Arrays.toString(a) + " threw " + e.getCause(), false);
        }
    }
}
