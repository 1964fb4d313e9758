import java.util.ArrayList;
import java.util.List;
import java.util.TreeSet;
import java.util.function.Consumer;
import java.util.function.ToIntFunction;
import java.util.regex.Matcher;
import java.util.regex.Pattern;

/**
 * A second telling of the document, with the Java library and without a thought for speed:
 * each step of AN HOUR is played as the document's words say it.
 */
final class Model {
    static final List<String> KINDS = List.of("person", "baker", "debtor", "teller", "fireman", "lover");
    private static final Pattern TOKEN = Pattern.compile("[a-z]+|[0-9]+|;|[^ ]");

    static final class Event {
        int hour;
        int worth;
        boolean met;
    }

    static final class One {
        String kind;
        boolean left;
        int purse = 50;
        int goes = -1;
        int comes = -1;
        int crossed;
        TreeSet<Integer> knows = new TreeSet<>();
    }

    static final class State {
        int hour;
        int toll = 5;
        List<Event> events = new ArrayList<>();
        List<One> people = new ArrayList<>();

        State copied() {
            State s = new State();
            s.hour = hour;
            s.toll = toll;
            for (Event e : events) {
                Event f = new Event();
                f.hour = e.hour;
                f.worth = e.worth;
                f.met = e.met;
                s.events.add(f);
            }
            for (One o : people) {
                One p = new One();
                p.kind = o.kind;
                p.left = o.left;
                p.purse = o.purse;
                p.goes = o.goes;
                p.comes = o.comes;
                p.crossed = o.crossed;
                p.knows = new TreeSet<>(o.knows);
                s.people.add(p);
            }
            return s;
        }
    }

    State state = new State();
    State kept = null;
    String tape = "";
    long[][] sheets = new long[4][];
    int[] bits = new int[4];
    int[] told = new int[7];

    // ---- the rules

    static boolean under(String kind, String above) {
        if (kind.equals(above) || above.equals("person")) {
            return true;
        }
        return kind.equals("fireman") && above.equals("teller") || kind.equals("lover") && above.equals("debtor");
    }

    static int gain(String kind, int w, boolean known) {
        if (known) {
            switch (kind) {
                case "debtor": return gain("person", w, true) - 1;
                case "lover": return gain("debtor", w, true) + 10;
                case "person": return 2 * w > 0 ? 2 * w : 0;
                case "fireman": return gain("teller", w, true);
                default: return gain("person", w, true);
            }
        }
        switch (kind) {
            case "baker": return gain("person", w, false) + gain("person", w, false) / 2;
            case "debtor": return gain("person", w, false) / 2;
            case "lover": return gain("debtor", w, false) + 3;
            case "person": return w;
            case "fireman": return gain("teller", w, false);
            default: return gain("person", w, false);
        }
    }

    static void hourGoes(State s) {
        int clock = s.hour % 24;
        for (One o : s.people) {
            boolean wants = !o.left && o.goes == clock || o.left && o.comes == clock;
            if (wants && o.purse >= s.toll) {
                crosses(s, o);
            }
        }
        for (One o : s.people) {
            if (under(o.kind, "teller")) {
                for (One p : s.people) {
                    if (p.left == o.left) {
                        p.knows.addAll(new TreeSet<>(o.knows));
                    }
                }
            }
        }
        for (One o : s.people) {
            if (o.kind.equals("fireman") && o.left) {
                for (int e : o.knows) {
                    Event v = s.events.get(e);
                    if (v.worth < 0 && v.hour + 24 >= s.hour) {
                        v.met = true;
                    }
                }
            }
        }
        for (int e = 0; e < s.events.size(); e++) {
            Event v = s.events.get(e);
            if (s.hour == v.hour) {
                comes(s, e, false);
            }
            if (s.hour == v.hour + 24 && !v.met) {
                comes(s, e, true);
            }
        }
        s.hour++;
    }

    static void crosses(State s, One o) {
        o.purse -= s.toll;
        o.left = !o.left;
        o.crossed++;
    }

    static void comes(State s, int e, boolean left) {
        for (One o : s.people) {
            if (o.left == left) {
                o.purse += gain(o.kind, s.events.get(e).worth, o.knows.contains(e));
                if (o.purse < 0) {
                    o.purse = 0;
                }
                if (o.purse > 9999) {
                    o.purse = 9999;
                }
            }
        }
        for (One o : s.people) {
            if (o.left == left) {
                o.knows.add(e);
            }
        }
    }

    State then(int n, Consumer<State> change) {
        State s = state.copied();
        change.accept(s);
        for (int i = 0; i < n; i++) {
            hourGoes(s);
        }
        return s;
    }

    State then(int n) {
        return then(n, s -> { });
    }

    static int purses(State s) {
        return s.people.stream().mapToInt(o -> o.purse).sum();
    }

    static int setOf(Iterable<Integer> members) {
        int set = 0;
        for (int m : members) {
            set |= 1 << m;
        }
        return set;
    }

    static int metSet(State s) {
        TreeSet<Integer> met = new TreeSet<>();
        for (int e = 0; e < s.events.size(); e++) {
            if (s.events.get(e).met) {
                met.add(e);
            }
        }
        return setOf(met);
    }

    static TreeSet<Integer> knowing(State s, int event) {
        TreeSet<Integer> those = new TreeSet<>();
        for (int i = 0; i < s.people.size(); i++) {
            if (s.people.get(i).knows.contains(event)) {
                those.add(i);
            }
        }
        return those;
    }

    // ---- findings

    int no(int finding) {
        told[-1000000001 - finding]++;
        return finding;
    }

    static boolean in(int v, int least, int most) {
        return v >= least && v <= most;
    }

    boolean isOne(int one) {
        return in(one, 0, state.people.size() - 1);
    }

    boolean isEvent(int event) {
        return in(event, 0, state.events.size() - 1);
    }

    // ---- the calls

    /** The call of that name (its place in the document's face, from 0) with arguments. */
    long call(int which, int[] a, long v) {
        if (which < 12) {
            return which < 4 ? riverCall(which, a) : peopleCall(which, a);
        }
        if (which < 19) {
            return hoursCall(which, a);
        }
        if (which < 27) {
            return plansCall(which, a);
        }
        if (which < 30) {
            return textCall(which, a);
        }
        return which < 36 ? sheetCall(which, a, v) : imageCall(which, a);
    }

    private int riverCall(int which, int[] a) {
        if (which == 0) {
            if (!in(a[0], 0, 99)) {
                return no(Due.BEYOND);
            }
            int was = state.toll;
            state.toll = a[0];
            return was;
        }
        if (which == 1) {
            if (!in(a[0], 0, 9999) || !in(a[1], -99, 99)) {
                return no(Due.BEYOND);
            }
            if (state.events.size() == 8) {
                return no(Due.FULL);
            }
            return addEvent(state, a[0], a[1]);
        }
        if (!isEvent(a[0])) {
            return no(Due.BEYOND);
        }
        Event e = state.events.get(a[0]);
        if (which == 3) {
            if (!in(a[1], -99, 99)) {
                return no(Due.BEYOND);
            }
            int was = e.worth;
            e.worth = a[1];
            return was;
        }
        switch (a[1]) {
            case 0: return e.hour;
            case 1: return e.worth;
            case 2: return e.met ? 1 : 0;
            case 3: return setOf(knowing(state, a[0]));
            case 4: return state.hour > e.hour ? -1 : e.hour - state.hour;
            case 5: return e.met || state.hour > e.hour + 24 ? -1 : e.hour + 24 - state.hour;
            default: return no(Due.BEYOND);
        }
    }

    static int addEvent(State s, int hour, int worth) {
        Event e = new Event();
        e.hour = hour;
        e.worth = worth;
        s.events.add(e);
        return s.events.size() - 1;
    }

    static int addOne(State s, String kind, boolean left) {
        One o = new One();
        o.kind = kind;
        o.left = left;
        s.people.add(o);
        return s.people.size() - 1;
    }

    private int peopleCall(int which, int[] a) {
        if (which == 4) {
            if (!in(a[0], 0, 5) || !in(a[1], 0, 1)) {
                return no(Due.BEYOND);
            }
            return state.people.size() == 8 ? no(Due.FULL) : addOne(state, KINDS.get(a[0]), a[1] == 1);
        }
        if (!isOne(a[0])) {
            return no(Due.BEYOND);
        }
        One o = state.people.get(a[0]);
        switch (which) {
            case 5: return in(a[1], 0, 6) ? part(o, a[1]) : no(Due.BEYOND);
            case 6: return setPart(o, a[1], a[2]);
            case 7:
                if (!in(a[1], 0, 5)) {
                    return no(Due.BEYOND);
                }
                int was = KINDS.indexOf(o.kind);
                o.kind = KINDS.get(a[1]);
                return was;
            case 8:
                if (!in(a[1], 0, 5)) {
                    return no(Due.BEYOND);
                }
                return under(o.kind, KINDS.get(a[1])) ? o.purse : no(Due.KIND);
            case 9:
                if (!in(a[1], -99, 99) || !in(a[2], 0, 1)) {
                    return no(Due.BEYOND);
                }
                return gain(o.kind, a[1], a[2] == 1);
            case 10:
                if (o.purse < state.toll) {
                    return no(Due.STATE);
                }
                crosses(state, o);
                return o.left ? 1 : 0;
            default:
                if (!isOne(a[1]) || a[0] == a[1]) {
                    return no(Due.BEYOND);
                }
                One p = state.people.get(a[1]);
                if (p.left != o.left) {
                    return no(Due.STATE);
                }
                int before = p.knows.size();
                p.knows.addAll(o.knows);
                return p.knows.size() - before;
        }
    }

    static int part(One o, int what) {
        switch (what) {
            case 0: return KINDS.indexOf(o.kind);
            case 1: return o.left ? 1 : 0;
            case 2: return o.purse;
            case 3: return o.goes;
            case 4: return o.comes;
            case 5: return o.crossed;
            default: return setOf(o.knows);
        }
    }

    private int setPart(One o, int what, int v) {
        boolean fine = what == 1 && in(v, 0, 1) || what == 2 && in(v, 0, 9999) || what == 3 && in(v, -1, 23)
            || what == 4 && in(v, -1, 23) || what == 6 && v >= 0 && v >> state.events.size() == 0;
        if (!fine) {
            return no(Due.BEYOND);
        }
        int was = part(o, what);
        if (what == 1) {
            o.left = v == 1;
        } else if (what == 2) {
            o.purse = v;
        } else if (what == 3) {
            o.goes = v;
        } else if (what == 4) {
            o.comes = v;
        } else {
            o.knows.clear();
            for (int e = 0; e < 8; e++) {
                if ((v >> e & 1) == 1) {
                    o.knows.add(e);
                }
            }
        }
        return was;
    }

    private int hoursCall(int which, int[] a) {
        switch (which) {
            case 12:
                if (!in(a[0], 1, 72)) {
                    return no(Due.BEYOND);
                }
                if (state.hour + a[0] > 9999) {
                    return no(Due.STATE);
                }
                state = then(a[0]);
                return purses(state);
            case 13: return now(a[0]);
            case 14:
                if (!isOne(a[0]) || !in(a[1], 0, 72) || !in(a[2], 0, 3)) {
                    return no(Due.BEYOND);
                }
                int[] parts = {2, 1, 5, 6};
                return part(then(a[1]).people.get(a[0]), parts[a[2]]);
            case 15:
                return !isOne(a[0]) || !isEvent(a[1]) ? no(Due.BEYOND)
                    : when(s -> s.people.get(a[0]).knows.contains(a[1]) ? 1 : 0);
            case 16:
                if (!isEvent(a[0])) {
                    return no(Due.BEYOND);
                }
                for (int n = 0; n <= 72; n++) {
                    TreeSet<Integer> those = knowing(then(n), a[0]);
                    if (!those.isEmpty()) {
                        return those.first();
                    }
                }
                return no(Due.NONE);
            case 17: return in(a[0], 0, 72) ? metSet(then(a[0])) : no(Due.BEYOND);
            default:
                return !isOne(a[0]) ? no(Due.BEYOND) : when(s -> s.people.get(a[0]).purse < s.toll ? 1 : 0);
        }
    }

    private int when(ToIntFunction<State> holds) {
        for (int n = 0; n <= 72; n++) {
            if (holds.applyAsInt(then(n)) == 1) {
                return n;
            }
        }
        return no(Due.NONE);
    }

    private int now(int what) {
        switch (what) {
            case 0: return state.hour;
            case 1: return state.hour % 24;
            case 2: return purses(state);
            case 3: return state.people.stream().mapToInt(o -> o.crossed).sum();
            case 4:
                int left = 0;
                for (int i = 0; i < state.people.size(); i++) {
                    left += state.people.get(i).left ? 1 << i : 0;
                }
                return left;
            case 5: return metSet(state);
            default: return no(Due.BEYOND);
        }
    }

    private int plansCall(int which, int[] a) {
        int n = which == 25 ? a[0] : a[1];
        boolean short48 = which <= 21;
        boolean fine = in(n, 0, short48 ? 48 : 72);
        if (which == 21) {
            fine &= in(a[0], 0, 99999);
        } else if (which == 26) {
            fine &= isEvent(a[0]);
        } else if (which != 25) {
            fine &= isOne(a[0]);
        }
        if (!fine) {
            return no(Due.BEYOND);
        }
        switch (which) {
            case 19: return bestClocks(a[0], n)[0];
            case 20: return bestClocks(a[0], n)[1];
            case 21:
                int most = -1;
                for (int t = 0; t <= 99; t++) {
                    int toll = t;
                    if (purses(then(n, s -> s.toll = toll)) >= a[0]) {
                        most = t;
                    }
                }
                return most < 0 ? no(Due.NONE) : most;
            case 22:
                int right = then(n, s -> s.people.get(a[0]).left = false).people.get(a[0]).purse;
                int left = then(n, s -> s.people.get(a[0]).left = true).people.get(a[0]).purse;
                return left > right ? 1 : 0;
            case 23: return bestKind(a[0], n);
            case 24: return bestNews(a[0], n);
            case 25: return mostNeeded(n);
            default:
                return purses(then(n)) - purses(then(n, s -> s.events.get(a[0]).worth = 0));
        }
    }

    private int[] bestClocks(int one, int n) {
        int[] found = {-1, -1};
        for (int pair = 0; pair < 576; pair++) {
            int goes = pair / 24;
            int comes = pair % 24;
            int purse = then(n, s -> {
                s.people.get(one).goes = goes;
                s.people.get(one).comes = comes;
            }).people.get(one).purse;
            if (purse > found[1]) {
                found[0] = pair;
                found[1] = purse;
            }
        }
        return found;
    }

    private int bestKind(int one, int n) {
        int best = 0;
        int most = -1;
        for (int k = 5; k >= 0; k--) {
            String kind = KINDS.get(k);
            int purse = then(n, s -> s.people.get(one).kind = kind).people.get(one).purse;
            if (purse >= most) {
                most = purse;
                best = k;
            }
        }
        return best;
    }

    private int bestNews(int one, int n) {
        int asIs = then(n).people.get(one).purse;
        int best = -1;
        int most = 0;
        for (int e = 0; e < state.events.size(); e++) {
            if (!state.people.get(one).knows.contains(e)) {
                int event = e;
                int more = then(n, s -> s.people.get(one).knows.add(event)).people.get(one).purse - asIs;
                if (more > most) {
                    most = more;
                    best = e;
                }
            }
        }
        return best < 0 ? no(Due.NONE) : best;
    }

    private int mostNeeded(int n) {
        int fewest = Integer.bitCount(metSet(then(n)));
        int best = -1;
        for (int i = 0; i < state.people.size(); i++) {
            int one = i;
            int met = Integer.bitCount(metSet(then(n, s -> s.people.remove(one))));
            if (met < fewest) {
                fewest = met;
                best = i;
            }
        }
        return best < 0 ? no(Due.NONE) : best;
    }

    // ---- the text

    private int textCall(int which, int[] a) {
        if (which == 27) {
            if (!in(a[1], 1, 4)) {
                return no(Due.BEYOND);
            }
            if (tape.length() + a[1] > 120) {
                return no(Due.FULL);
            }
            String fed = "";
            int rest = a[0];
            for (int i = 0; i < a[1]; i++) {
                fed = (char) (rest & 255) + fed;
                rest >>= 8;
            }
            tape += fed;
            return tape.length();
        }
        String was = tape;
        tape = "";
        return which == 28 ? was.length() : river(was);
    }

    private List<String> tokens;
    private List<Integer> places;
    private int at;

    private int river(String was) {
        tokens = new ArrayList<>();
        places = new ArrayList<>();
        at = 0;
        Matcher m = TOKEN.matcher(was);
        while (m.find()) {
            tokens.add(m.group());
            places.add(m.start());
        }
        tokens.add("");
        places.add(was.length());
        State s = state.copied();
        int items = 0;
        do {
            if (!item(s)) {
                return -1 - places.get(at);
            }
            items++;
        } while (take(";"));
        if (!tokens.get(at).isEmpty()) {
            return -1 - places.get(at);
        }
        state = s;
        return items;
    }

    private boolean take(String token) {
        boolean there = tokens.get(at).equals(token);
        at += there ? 1 : 0;
        return there;
    }

    private int number(int most) {
        String t = tokens.get(at);
        if (!t.matches("[0-9]+") || new java.math.BigInteger(t).compareTo(java.math.BigInteger.valueOf(most)) > 0) {
            return -1;
        }
        at++;
        return Integer.parseInt(t.replaceFirst("^0+(?=.)", ""));
    }

    private boolean item(State s) {
        String head = tokens.get(at);
        if (head.equals("toll")) {
            at++;
            int v = number(99);
            s.toll = v;
            return v >= 0;
        }
        if (head.equals("event") && s.events.size() < 8) {
            at++;
            int hour = number(9999);
            if (hour < 0 || !take("worth")) {
                return false;
            }
            int sign = take("less") ? -1 : 1;
            int worth = number(99);
            addEvent(s, hour, sign * worth);
            return worth >= 0;
        }
        if (!KINDS.contains(head) || s.people.size() == 8) {
            return false;
        }
        at++;
        One o = s.people.get(addOne(s, head, take("left")));
        if (take("purse") && (o.purse = number(9999)) < 0) {
            return false;
        }
        if (take("goes") && (o.goes = number(23)) < 0) {
            return false;
        }
        return !take("comes") || (o.comes = number(23)) >= 0;
    }

    // ---- sheets

    private static long cut(long v, int bits) {
        return v << 64 - bits >> 64 - bits;
    }

    private long sheetCall(int which, int[] a, long v) {
        int s = a[0];
        if (which == 30) {
            if (!in(s, 0, 3) || !List.of(0, 8, 16, 64).contains(a[1])) {
                return no(Due.BEYOND);
            }
            if (a[2] < 0 || a[2] > 40) {
                return no(a[2] < 0 ? Due.SIZE : Due.BEYOND);
            }
            bits[s] = a[1];
            sheets[s] = a[1] == 0 ? null : new long[a[2]];
            return a[1] == 0 ? 0 : a[2];
        }
        if (!in(s, 0, 3) || which == 32 && !in(a[2], 0, 3)) {
            return no(Due.BEYOND);
        }
        if (sheets[s] == null || which == 32 && sheets[a[2]] == null) {
            return no(Due.MISSING);
        }
        switch (which) {
            case 31:
                if (!in(a[1], 0, sheets[s].length - 1)) {
                    return no(Due.BEYOND);
                }
                long was = sheets[s][a[1]];
                sheets[s][a[1]] = cut(v, bits[s]);
                return was;
            case 32:
                return copied(a);
            case 33:
                int came = 0;
                for (int i = 0; i < sheets[s].length; i++) {
                    if (i < state.people.size() && sheets[s][i] >= 0 && sheets[s][i] <= 9999) {
                        state.people.get(i).purse = (int) sheets[s][i];
                        came++;
                    }
                }
                return came;
            case 34:
                if (!isOne(a[1])) {
                    return no(Due.BEYOND);
                }
                for (int i = 0; i < sheets[s].length; i++) {
                    sheets[s][i] = cut(then(i).people.get(a[1]).purse, bits[s]);
                }
                return sheets[s].length;
            default:
                return isOne(a[1]) ? pairs(sheets[s], a[1]) : no(Due.BEYOND);
        }
    }

    private int copied(int[] a) {
        if (bits[a[0]] != bits[a[2]]) {
            return no(Due.KIND);
        }
        long n = a[4];
        if (a[1] < 0 || a[3] < 0 || n < 0 || a[1] + n > sheets[a[0]].length || a[3] + n > sheets[a[2]].length) {
            return no(Due.BEYOND);
        }
        long[] from = sheets[a[0]].clone();
        for (int i = 0; i < n; i++) {
            sheets[a[2]][a[3] + i] = from[a[1] + i];
        }
        return a[4];
    }

    private int pairs(long[] sheet, int one) {
        int found = 0;
        for (int goes = -1; goes < 24; goes++) {
            for (int comes = -1; comes < 24; comes++) {
                State s = state.copied();
                s.people.get(one).goes = goes;
                s.people.get(one).comes = comes;
                boolean same = true;
                for (int i = 0; i < sheet.length && same; i++) {
                    same = sheet[i] == s.people.get(one).purse;
                    hourGoes(s);
                }
                found += same ? 1 : 0;
            }
        }
        return found;
    }

    // ---- images

    private int imageCall(int which, int[] a) {
        switch (which) {
            case 36:
                kept = state.copied();
                return 1;
            case 37:
                if (kept == null) {
                    return no(Due.NONE);
                }
                state = kept.copied();
                return state.people.size();
            case 38:
                int torn = kept == null ? 0 : 1;
                kept = null;
                return torn;
            case 39:
                int[] counts = {state.people.size(), state.events.size(), tape.length(),
                    state.people.stream().mapToInt(o -> o.knows.size()).sum()};
                return in(a[0], 0, 3) ? counts[a[0]] : no(Due.BEYOND);
            default:
                if (!in(a[0], -1, 6)) {
                    return no(Due.BEYOND);
                }
                int all = 0;
                for (int t : told) {
                    all += t;
                }
                return a[0] < 0 ? all : told[a[0]];
        }
    }
}
