import java.util.function.Supplier;

/** Rivers to ask, all that can be told of one from outside, and what a call may do to it. */
final class Scene {
    static final int LOW = Integer.MIN_VALUE;
    static final int HIGH = Integer.MAX_VALUE;
    /** Of the lively river: PEOPLE 0 to 5, EVENTS 0 to 3, and how many numbers its sheets have (3 is MISSING). */
    static final int LIVELY_PEOPLE = 6;
    static final int LIVELY_EVENTS = 4;
    static final int[] LIVELY_NUMBERS = {3, 4, 5};

    private Scene() {
    }

    interface Call {
        long on(DayBehind x);
    }

    /** Room on every side: one of each KIND, some EVENTS, one of them MET, an image that is not the present. */
    static DayBehind lively() {
        DayBehind x = new DayBehind();
        int[] banks = {0, 0, 1, 0, 1, 1};
        for (int kind = 0; kind < LIVELY_PEOPLE; kind++) {
            x.one(kind, banks[kind]);
        }
        x.event(10, 20);
        x.event(30, -30);
        x.event(90, -5);
        x.event(5, 7);
        x.set(0, 3, 8);
        x.set(0, 4, 9);
        x.set(3, 3, 16);
        x.set(3, 4, 17);
        x.set(4, 6, 2);
        x.image();
        x.toll(6);
        x.hours(12);
        x.set(2, 2, 5);
        int[] bits = {8, 16, 64};
        for (int s = 0; s < 3; s++) {
            x.sheet(s, bits[s], LIVELY_NUMBERS[s]);
            x.write(s, 0, 50L + s);
            x.write(s, 2, -3L);
        }
        Due.feed(x, "toll 42");
        return x;
    }

    /** Full on every side: PEOPLE, EVENTS, THE TAPE, and two sheets. */
    static DayBehind full() {
        DayBehind x = new DayBehind();
        for (int i = 0; i < 8; i++) {
            x.one(i % 6, i % 2);
            x.event(3 * i, 20 * i - 70);
            x.set(i, 6, i);
        }
        x.image();
        x.hours(2);
        x.sheet(0, 8, 40);
        x.sheet(2, 16, 40);
        x.write(0, 39, 9L);
        x.write(2, 39, -9L);
        Due.feed(x, "toll 42" + " ".repeat(113));
        return x;
    }

    /** THE HOUR is 9999; one on the RIGHT goes at just that CLOCK. */
    static DayBehind late() {
        DayBehind x = new DayBehind();
        x.one(0, 0);
        x.one(3, 1);
        x.event(9999, 20);
        x.event(9998, 1);
        x.event(9975, 30);
        x.event(9974, 1);
        for (int i = 0; i < 138; i++) {
            x.hours(72);
        }
        x.hours(63);
        x.set(0, 3, 15);
        return x;
    }

    /** All that can be told of a river but for status(); what is on the tape and what is kept are used up by it. */
    static String telling(DayBehind x) {
        StringBuilder t = new StringBuilder();
        present(x, t);
        for (int s = 0; s < 4; s++) {
            numbers(x, s, t.append(" sheet"));
        }
        t.append(" river ").append(x.river()).append(" toll ").append(tollOf(x));
        t.append(" undo ").append(x.undo());
        present(x, t);
        return t.append(" tear ").append(x.tear()).toString();
    }

    private static void present(DayBehind x, StringBuilder t) {
        t.append(" toll ").append(tollOf(x)).append(" count");
        for (int what = 0; what < 4; what++) {
            t.append(' ').append(x.count(what));
        }
        t.append(" now");
        for (int what = 0; what < 6; what++) {
            t.append(' ').append(x.now(what));
        }
        int people = x.count(0);
        for (int i = 0; i < people; i++) {
            t.append(" one");
            for (int what = 0; what < 7; what++) {
                t.append(' ').append(x.of(i, what));
            }
        }
        int events = x.count(1);
        for (int e = 0; e < events; e++) {
            t.append(" event");
            for (int what = 0; what < 6; what++) {
                t.append(' ').append(x.eventOf(e, what));
            }
        }
    }

    private static int tollOf(DayBehind x) {
        int toll = x.toll(0);
        x.toll(toll);
        return toll;
    }

    /** The numbers, and by what is left of a long one their bits; up to the finding behind them. */
    private static void numbers(DayBehind x, int s, StringBuilder t) {
        long was = 0;
        for (int i = 0; i <= 40 && was > -1000000000L; i++) {
            was = x.write(s, i, 0x7172737475767778L);
            t.append(' ').append(was);
            if (was > -1000000000L) {
                t.append('/').append(x.write(s, i, was));
            }
        }
    }

    /** How many of each finding were told, all together first. */
    static int[] told(DayBehind x) {
        int[] told = new int[8];
        for (int which = -1; which < 7; which++) {
            told[which + 1] = x.status(which);
        }
        return told;
    }

    /** The call answers the finding, it is counted once, and nothing else changes. */
    static void refused(Due due, String name, Supplier<DayBehind> make, Call call, int finding) {
        DayBehind x = make.get();
        int[] before = told(x);
        due.is(name, call.on(x), finding);
        int[] after = told(x);
        for (int f = -1; f < 7; f++) {
            int more = f == -1 || f == Due.BEYOND - finding ? 1 : 0;
            due.is(name + ", then status(" + f + ")", after[f + 1], before[f + 1] + more);
        }
        due.holds(name + " changes nothing but status()", telling(x).equals(telling(make.get())));
    }

    /** The call does not answer BEYOND, nor is one counted. */
    static void taken(Due due, String name, Supplier<DayBehind> make, Call call) {
        DayBehind x = make.get();
        int before = x.status(0);
        due.holds(name + " is taken", call.on(x) != Due.BEYOND);
        due.is(name + ", then status(0)", x.status(0), before);
    }

    /** The call answers so, and nothing changes at all, status() neither. */
    static void changesNothing(Due due, String name, Supplier<DayBehind> make, Call call) {
        DayBehind x = make.get();
        int before = x.status(-1);
        boolean finding = call.on(x) < -1000000000L;
        due.is(name + ", then status(-1)", x.status(-1), before + (finding ? 1 : 0));
        due.holds(name + " changes nothing", telling(x).equals(telling(make.get())));
    }
}
