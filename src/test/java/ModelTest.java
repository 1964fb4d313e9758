/**
 * Runs of calls on DayBehind and on the Model, side by side: every answer must be the same.
 * The numbers come from a generator of its own, so that each run is the same every time.
 */
public final class ModelTest {
    private static final int RUNS = 240;
    private static final int CALLS = 300;
    /** What an object answers to later calls is free. */
    private static final int MOST_CALLS = 512;
    private static final String[] NAMES = {"toll", "event", "eventOf", "worth", "one", "of", "set", "turn", "as",
        "gains", "cross", "tells", "hours", "now", "on", "learns", "first", "met", "broke", "clocks", "rich",
        "bears", "bank", "kind", "news", "needed", "sum", "feed", "wipe", "river", "sheet", "write", "copy",
        "lays", "book", "read", "image", "undo", "tear", "count", "status"};
    /** How many of each call, of all; dear ones are rare. */
    private static final int[] OFTEN = {6, 20, 20, 8, 20, 14, 40, 8, 6, 8, 10, 10, 24, 16, 20, 12, 10, 10, 8, 1, 1,
        2, 8, 8, 8, 12, 12, 6, 2, 3, 8, 10, 8, 4, 6, 2, 5, 6, 2, 6, 4};
    private static final String[] WORDS = {"person", "baker", "debtor", "teller", "fireman", "lover", "left",
        "purse", "goes", "comes", "event", "worth", "less", "toll", ";", ";", ";", "#", "x"};

    private static final Due due = new Due();
    private static long seed;
    private static int asked;

    public static void main(String[] args) {
        for (int run = 0; run < RUNS && due.wrong() < 20; run++) {
            seed = 77_000_003L * (run + 1);
            due.part("run " + run);
            oneRun(run % 4 == 3);
        }
        due.part("ModelTest");
        due.end();
    }

    private static int below(int n) {
        seed = seed * 6364136223846793005L + 1442695040888963407L;
        return (int) ((seed >>> 33) % n);
    }

    private static int between(int least, int most) {
        return least + below(most - least + 1);
    }

    /** Within the bounds as a rule, just beyond them at times, far beyond rarely. */
    private static int near(int least, int most) {
        int dice = below(60);
        if (dice == 0) {
            return least - 1;
        }
        if (dice == 1) {
            return most + 1;
        }
        if (dice == 2) {
            return below(2) == 0 ? Integer.MIN_VALUE : Integer.MAX_VALUE;
        }
        return dice < 8 ? (below(2) == 0 ? least : most) : between(least, most);
    }

    private static void oneRun(boolean wild) {
        DayBehind x = new DayBehind();
        Model m = new Model();
        asked = 0;
        int total = 0;
        for (int often : OFTEN) {
            total += often;
        }
        if (!wild) {
            settle(x, m);
        }
        for (int i = 0; i < CALLS && due.wrong() < 20; i++) {
            int dice = below(total);
            int which = 0;
            while (dice >= OFTEN[which]) {
                dice -= OFTEN[which];
                which++;
            }
            if (which == 29) {
                text(x, m);
            }
            ask(x, m, which, arguments(which, m), below(3) == 0 ? seed : between(-200, 10200));
        }
        for (int one = 0; one < 8; one++) {
            for (int what = 0; what < 7; what++) {
                ask(x, m, 5, new int[] {one, what}, 0);
            }
        }
    }

    /** A lively river: people of all kinds who cross, and events near the hour. */
    private static void settle(DayBehind x, Model m) {
        int people = between(2, 8);
        int events = between(1, 8);
        for (int i = 0; i < people; i++) {
            ask(x, m, 4, new int[] {below(6), below(2)}, 0);
            ask(x, m, 6, new int[] {i, 2, between(0, 150)}, 0);
            ask(x, m, 6, new int[] {i, 3, between(-1, 23)}, 0);
            ask(x, m, 6, new int[] {i, 4, between(-1, 23)}, 0);
        }
        for (int e = 0; e < events; e++) {
            ask(x, m, 1, new int[] {below(60), between(-99, 99)}, 0);
        }
    }

    private static int[] arguments(int which, Model m) {
        int one = near(0, Math.max(0, m.state.people.size() - 1));
        int event = near(0, Math.max(0, m.state.events.size() - 1));
        switch (which) {
            case 0: return new int[] {near(0, below(3) == 0 ? 99 : 20)};
            case 1: return new int[] {below(12) == 0 ? near(0, 9999)
                : Math.max(0, m.state.hour + between(-30, 50)), near(-99, 99)};
            case 2: return new int[] {event, near(0, 5)};
            case 3: return new int[] {event, near(-99, 99)};
            case 4: return new int[] {near(0, 5), near(0, 1)};
            case 5: return new int[] {one, near(0, 6)};
            case 6: return setting(one, m);
            case 7:
            case 8: return new int[] {one, near(0, 5)};
            case 9: return new int[] {one, near(-99, 99), near(0, 1)};
            case 11: return new int[] {one, near(0, 7)};
            case 12: return new int[] {below(4) == 0 ? near(1, 72) : between(1, 9)};
            case 13: return new int[] {near(0, 5)};
            case 14: return new int[] {one, near(0, 72), near(0, 3)};
            case 15: return new int[] {one, event};
            case 16: return new int[] {event};
            case 17:
            case 25: return new int[] {near(0, 72)};
            case 19:
            case 20: return new int[] {one, near(0, 48)};
            case 21: return new int[] {below(8) == 0 ? near(0, 99999) : Model.purses(m.state) + between(-150, 150),
                near(0, 48)};
            case 22:
            case 23:
            case 24: return new int[] {one, near(0, 72)};
            case 26: return new int[] {event, near(0, 72)};
            case 27: return new int[] {(int) seed, near(1, 4)};
            case 30: return new int[] {near(0, 3), new int[] {0, 8, 16, 16, 64, 64, 64, 32}[below(8)], near(0, 40)};
            case 31: return new int[] {near(0, 3), near(0, 40)};
            case 32: return new int[] {near(0, 3), near(0, 20), near(0, 3), near(0, 20), near(0, 20)};
            case 34:
            case 35: return new int[] {near(0, 3), one};
            case 39: return new int[] {near(0, 3)};
            case 40: return new int[] {near(-1, 6)};
            default: return new int[] {which == 33 ? near(0, 3) : one};
        }
    }

    private static int[] setting(int one, Model m) {
        int what = new int[] {1, 2, 2, 3, 3, 4, 4, 6, 6, 6, 0, 5, 7, -1}[below(14)];
        switch (what) {
            case 1: return new int[] {one, what, near(0, 1)};
            case 2: return new int[] {one, what, below(4) == 0 ? near(0, 9999) : between(0, 150)};
            case 6: return new int[] {one, what, near(0, (1 << m.state.events.size()) - 1)};
            default: return new int[] {one, what, near(-1, 23)};
        }
    }

    /** Puts a text on the tape: a sound one as a rule, at times with a token changed or cut off. */
    private static void text(DayBehind x, Model m) {
        StringBuilder t = new StringBuilder();
        int items = between(1, 4);
        for (int i = 0; i < items; i++) {
            t.append(i > 0 ? below(2) == 0 ? ";" : " ; " : "").append(item());
        }
        if (below(3) == 0) {
            int from = below(t.length() + 1);
            int to = Math.min(t.length(), from + below(4));
            t.replace(from, to, below(2) == 0 ? "" : " " + WORDS[below(WORDS.length)] + " ");
        }
        ask(x, m, 28, new int[] {0}, 0);
        for (int i = 0; i < t.length(); i++) {
            ask(x, m, 27, new int[] {t.charAt(i), 1}, 0);
        }
    }

    private static String item() {
        int dice = below(5);
        if (dice == 0) {
            return "toll " + near(0, 99);
        }
        if (dice == 1) {
            return "event " + between(0, 80) + " worth " + (below(2) == 0 ? "less " : "") + between(0, 102);
        }
        return WORDS[below(6)] + (below(2) == 0 ? " left" : "")
            + (below(2) == 0 ? " purse " + between(0, 300) : "")
            + (below(2) == 0 ? " goes " + between(0, 24) : "")
            + (below(2) == 0 ? " comes " + between(0, 24) : "");
    }

    private static void ask(DayBehind x, Model m, int which, int[] a, long v) {
        if (asked == MOST_CALLS) {
            return;
        }
        asked++;
        StringBuilder call = new StringBuilder(NAMES[which]).append('(');
        for (int i = 0; i < a.length; i++) {
            call.append(i > 0 ? ", " : "").append(a[i]);
        }
        call.append(which == 31 ? ", " + v + ")" : ")");
        due.is(call.toString(), answer(x, which, a, v), m.call(which, a, v));
    }

    private static long answer(DayBehind x, int which, int[] a, long v) {
        switch (which) {
            case 0: return x.toll(a[0]);
            case 1: return x.event(a[0], a[1]);
            case 2: return x.eventOf(a[0], a[1]);
            case 3: return x.worth(a[0], a[1]);
            case 4: return x.one(a[0], a[1]);
            case 5: return x.of(a[0], a[1]);
            case 6: return x.set(a[0], a[1], a[2]);
            case 7: return x.turn(a[0], a[1]);
            case 8: return x.as(a[0], a[1]);
            case 9: return x.gains(a[0], a[1], a[2]);
            case 10: return x.cross(a[0]);
            case 11: return x.tells(a[0], a[1]);
            case 12: return x.hours(a[0]);
            case 13: return x.now(a[0]);
            case 14: return x.on(a[0], a[1], a[2]);
            case 15: return x.learns(a[0], a[1]);
            case 16: return x.first(a[0]);
            case 17: return x.met(a[0]);
            case 18: return x.broke(a[0]);
            case 19: return x.clocks(a[0], a[1]);
            case 20: return x.rich(a[0], a[1]);
            default: return answerOfRest(x, which, a, v);
        }
    }

    private static long answerOfRest(DayBehind x, int which, int[] a, long v) {
        switch (which) {
            case 21: return x.bears(a[0], a[1]);
            case 22: return x.bank(a[0], a[1]);
            case 23: return x.kind(a[0], a[1]);
            case 24: return x.news(a[0], a[1]);
            case 25: return x.needed(a[0]);
            case 26: return x.sum(a[0], a[1]);
            case 27: return x.feed(a[0], a[1]);
            case 28: return x.wipe();
            case 29: return x.river();
            case 30: return x.sheet(a[0], a[1], a[2]);
            case 31: return x.write(a[0], a[1], v);
            case 32: return x.copy(a[0], a[1], a[2], a[3], a[4]);
            case 33: return x.lays(a[0]);
            case 34: return x.book(a[0], a[1]);
            case 35: return x.read(a[0], a[1]);
            case 36: return x.image();
            case 37: return x.undo();
            case 38: return x.tear();
            case 39: return x.count(a[0]);
            default: return x.status(a[0]);
        }
    }
}
