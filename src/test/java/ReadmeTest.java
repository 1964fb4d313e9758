import java.io.IOException;
import java.lang.reflect.Method;
import java.lang.reflect.Modifier;
import java.nio.file.Files;
import java.nio.file.Path;
import java.util.ArrayList;
import java.util.List;
import java.util.Map;
import java.util.Set;
import java.util.TreeMap;
import java.util.TreeSet;
import java.util.regex.Matcher;
import java.util.regex.Pattern;

/** Holds README.md to its word: the answers in its examples, its lists of calls, findings, classes and tests. */
public final class ReadmeTest {
    private static final Pattern CALL = Pattern.compile("river\\.(\\w+)\\(([^)]*)\\);\\s*// (-?\\d+): .*");
    private static final String MADE = "DayBehind river = new DayBehind();";

    private static final Due due = new Due();

    public static void main(String[] args) throws Exception {
        String page = Files.readString(Path.of("README.md"));
        examples(page);
        calls(page);
        findings(page);
        classes(page);
        tests(page);
        due.part("ReadmeTest");
        due.end();
    }

    private static void examples(String page) throws Exception {
        due.part("examples");
        Matcher block = Pattern.compile("(?s)```java\n(.*?)```").matcher(page);
        int blocks = 0;
        while (block.find()) {
            blocks++;
            DayBehind river = null;
            for (String line : block.group(1).split("\n")) {
                if (line.equals(MADE)) {
                    river = new DayBehind();
                } else {
                    ask(river, line);
                }
            }
        }
        due.is("examples", blocks, 2);
    }

    private static void ask(DayBehind river, String line) throws Exception {
        Matcher call = CALL.matcher(line);
        boolean told = river != null && call.matches();
        due.holds("a call with its answer: " + line, told);
        if (!told) {
            return;
        }
        Method method = face().get(call.group(1));
        String[] written = call.group(2).isEmpty() ? new String[0] : call.group(2).split(", ");
        boolean fits = method != null && method.getParameterCount() == written.length;
        due.holds("a call of the class: " + line, fits);
        if (!fits) {
            return;
        }
        Object[] given = new Object[written.length];
        for (int i = 0; i < given.length; i++) {
            boolean isLong = method.getParameterTypes()[i] == long.class;
            given[i] = isLong ? (Object) Long.decode(written[i]) : (Object) Integer.decode(written[i]);
        }
        due.is(line, ((Number) method.invoke(river, given)).longValue(), Long.parseLong(call.group(3)));
    }

    private static Map<String, Method> face() {
        Map<String, Method> all = new TreeMap<>();
        for (Method m : DayBehind.class.getDeclaredMethods()) {
            if (Modifier.isPublic(m.getModifiers())) {
                all.put(m.getName(), m);
            }
        }
        return all;
    }

    private static void calls(String page) {
        due.part("calls");
        List<String> listed = quoted(section(page, "### The calls"), "`(\\w+)`");
        due.is("each once", listed.size(), new TreeSet<>(listed).size());
        due.holds("all of the face: " + listed, new TreeSet<>(listed).equals(face().keySet()));
    }

    /** Each finding is brought about, and counted where the page says. */
    private static void findings(String page) {
        due.part("findings");
        String table = section(page, "### Findings");
        String[] names = {"BEYOND", "FULL", "KIND", "NONE", "STATE", "MISSING", "SIZE"};
        for (int f = 0; f < names.length; f++) {
            DayBehind x = new DayBehind();
            int answer = refused(x, f);
            due.holds(names[f] + " is listed as " + answer,
                table.contains("| " + names[f] + " | " + answer + " | " + f + " |"));
            due.is("status of " + names[f], x.status(f), 1);
            due.is("status of all", x.status(-1), 1);
        }
        DayBehind x = new DayBehind();
        x.sheet(0, 64, 1);
        x.write(0, 0, Due.NONE);
        due.is("a number like a finding", x.write(0, 0, Long.MIN_VALUE), Due.NONE);
        due.is("a number below all findings", x.write(0, 0, 0), Long.MIN_VALUE);
        due.is("no finding was answered", x.status(-1), 0);
    }

    private static int refused(DayBehind x, int finding) {
        switch (finding) {
            case 0:
                return x.toll(100);
            case 1:
                for (int i = 0; i < 30; i++) {
                    x.feed(0, 4);
                }
                return x.feed(0, 1);
            case 2:
                x.one(0, 0);
                return x.as(0, 1);
            case 3:
                return x.undo();
            case 4:
                x.one(0, 0);
                x.set(0, 2, 4);
                return x.cross(0);
            case 5:
                return x.lays(0);
            default:
                return x.sheet(0, 8, -1);
        }
    }

    private static void classes(String page) {
        due.part("classes");
        Set<String> there = new TreeSet<>();
        for (Class<?> c : DayBehind.class.getDeclaredClasses()) {
            there.add(c.getSimpleName());
        }
        Set<String> named = new TreeSet<>(quoted(section(page, "## How it is built"), "`([A-Z]\\w+)`"));
        due.holds("named " + named + ", there are " + there, named.equals(there));
    }

    private static void tests(String page) throws IOException {
        due.part("tests");
        Set<String> there = new TreeSet<>();
        try (var files = Files.list(Path.of("src/test/java"))) {
            files.forEach(f -> there.add(f.getFileName().toString().replace(".java", "")));
        }
        Set<String> named = new TreeSet<>(quoted(section(page, "## Tests"), "`([A-Z]\\w+)`"));
        due.holds("named " + named + ", there are " + there, named.equals(there));
        due.holds("the page says how they are run", section(page, "## Tests").contains("```sh\n.ci/run\n```"));
        due.holds(".ci/run can be run", Files.isExecutable(Path.of(".ci/run")));
    }

    /** What stands below a heading, up to the next one. */
    private static String section(String page, String heading) {
        int from = page.indexOf("\n" + heading + "\n");
        due.holds("the page has " + heading, from >= 0);
        int to = from < 0 ? -1 : page.indexOf("\n#", from + 1);
        return from < 0 ? "" : page.substring(from + 1, to < 0 ? page.length() : to);
    }

    private static List<String> quoted(String text, String pattern) {
        List<String> all = new ArrayList<>();
        Matcher m = Pattern.compile(pattern).matcher(text);
        while (m.find()) {
            all.add(m.group(1));
        }
        return all;
    }
}
