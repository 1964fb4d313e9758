/** What the promises answer at their edges: the empty and the full, the first and the last, what wraps around. */
public final class PromiseEdgeTest {
    private static final int NONE = Due.NONE;
    private static final int PERSON = 0;
    private static final int BAKER = 1;
    private static final int DEBTOR = 2;
    private static final int TELLER = 3;
    private static final int FIREMAN = 4;
    private static final int LOVER = 5;
    private static final int RIGHT = 0;
    private static final int LEFT = 1;

    private static final Due due = new Due();

    public static void main(String[] args) {
        theRiver();
        people();
        hours();
        clocksTolls();
        tape();
        sheets();
        images();
        due.part("PromiseEdgeTest");
        due.end();
    }

    private static void theRiver() {
        newObject();
        newObjectsShareNothing();
        toll();
        event();
        eventOfHours();
        eventOfMet();
        worth();
    }

    private static void people() {
        one();
        set();
        turn();
        as();
        gains();
        cross();
        tells();
    }

    private static void hours() {
        hoursFewAndMany();
        now();
        on();
        learns();
        first();
        met();
        broke();
    }

    private static void clocksTolls() {
        clocksLeast();
        clocksMost();
        rich();
        bears();
        bearsPurses();
        bank();
        kind();
        newsMoreThanNought();
        newsOfSeveral();
        neededFewer();
        neededOfSeveral();
        sum();
    }

    private static void tape() {
        feedBytes();
        feedUpToFull();
        wipe();
    }

    private static void sheets() {
        sheetOfNone();
        sheetIsAllNought();
        sheetIsMissing();
        writeLowestBits();
        copyNone();
        copyAll();
        copyAsTheyAllWere();
        laysWithinBounds();
        laysForNone();
        laysOfFewBits();
        bookOfNoneAndForty();
        bookOfFewBits();
        readOfNone();
        readOfForty();
        readClocksAtTheEnds();
    }

    private static void images() {
        imageOfNothing();
        imageOfAll();
        undoStays();
        undoToFewer();
        tear();
        count();
        countFull();
        statusCountsItself();
        statusIsNeverTakenBack();
    }

    private static DayBehind withOne(int kind, int bank, int purse) {
        DayBehind x = new DayBehind();
        x.one(kind, bank);
        x.set(0, 2, purse);
        return x;
    }

    private static void numbers(DayBehind x, int s, long... want) {
        for (int i = 0; i < want.length; i++) {
            long got = x.write(s, i, 0L);
            x.write(s, i, got);
            due.is("number " + i + " of sheet " + s, got, want[i]);
        }
    }

    // ---- the river

    private static void newObject() {
        due.part("1 A new object: no PEOPLE, no EVENTS; THE TAPE is empty, no image is kept");
        DayBehind x = new DayBehind();
        for (int what = 0; what < 4; what++) {
            due.is("count(" + what + ")", x.count(what), 0);
        }
        for (int what = 0; what < 6; what++) {
            due.is("now(" + what + ")", x.now(what), 0);
        }
        due.is("wipe()", x.wipe(), 0);
        due.is("tear()", x.tear(), 0);
        due.is("river()", x.river(), -1);
        for (int which = -1; which < 7; which++) {
            due.is("status(" + which + ")", x.status(which), 0);
        }
        due.is("undo()", x.undo(), NONE);
    }

    private static void newObjectsShareNothing() {
        due.part("1 A new object, beside one that is full");
        DayBehind x = Scene.full();
        String fresh = Scene.telling(new DayBehind());
        x.toll(100);
        DayBehind y = new DayBehind();
        due.is("status(-1)", y.status(-1), 0);
        due.holds("it is as new", Scene.telling(y).equals(fresh));
    }

    private static void toll() {
        due.part("2 toll: what it was");
        DayBehind x = new DayBehind();
        int[] tolls = {0, 99, 0, 0, 1, 98, 99, 99};
        int was = 5;
        for (int v : tolls) {
            due.is("toll(" + v + ")", x.toll(v), was);
            was = v;
        }
    }

    private static void event() {
        due.part("3 event: its number, from 0 to 7");
        DayBehind x = new DayBehind();
        for (int e = 0; e < 8; e++) {
            due.is("event " + e, x.event(9999 - e, e - 99), e);
        }
        for (int e = 0; e < 8; e++) {
            due.is("eventOf(" + e + ", 0)", x.eventOf(e, 0), 9999 - e);
            due.is("eventOf(" + e + ", 1)", x.eventOf(e, 1), e - 99);
        }
    }

    private static void eventOfHours() {
        due.part("4 eventOf: 4 in how many HOURS it comes on the RIGHT, 5 on the LEFT");
        DayBehind x = new DayBehind();
        x.event(0, 1);
        x.event(9999, 1);
        int[][] rows = {{0, 24, 9999, 10023}, {-1, 23, 9998, 10022}, {-1, 1, 9976, 10000}, {-1, 0, 9975, 9999},
            {-1, -1, 9974, 9998}, {-1, -1, 9973, 9997}};
        int[] steps = {0, 1, 22, 1, 1, 1};
        for (int i = 0; i < rows.length; i++) {
            if (steps[i] > 0) {
                x.hours(steps[i]);
            }
            String at = " at " + x.now(0);
            due.is("of the first, RIGHT" + at, x.eventOf(0, 4), rows[i][0]);
            due.is("of the first, LEFT" + at, x.eventOf(0, 5), rows[i][1]);
            due.is("of the last, RIGHT" + at, x.eventOf(1, 4), rows[i][2]);
            due.is("of the last, LEFT" + at, x.eventOf(1, 5), rows[i][3]);
        }
        DayBehind y = Scene.late();
        int[][] late = {{0, 24}, {-1, 23}, {-1, 0}, {-1, -1}};
        for (int e = 0; e < 4; e++) {
            due.is("RIGHT of " + e + " at 9999", y.eventOf(e, 4), late[e][0]);
            due.is("LEFT of " + e + " at 9999", y.eventOf(e, 5), late[e][1]);
        }
    }

    private static void eventOfMet() {
        due.part("4 eventOf: 5 (-1: or it is MET), 2 1 if it is MET, else 0");
        DayBehind x = withOne(FIREMAN, LEFT, 50);
        x.event(40, -1);
        x.set(0, 6, 1);
        due.is("not MET yet", x.eventOf(0, 2), 0);
        due.is("on the LEFT", x.eventOf(0, 5), 64);
        x.hours(1);
        due.is("MET", x.eventOf(0, 2), 1);
        due.is("on the LEFT", x.eventOf(0, 5), -1);
        due.is("on the RIGHT still", x.eventOf(0, 4), 39);
        x.worth(0, 5);
        due.is("MET stays, whatever its WORTH", x.eventOf(0, 2), 1);
        due.is("on the LEFT", x.eventOf(0, 5), -1);
    }

    private static void worth() {
        due.part("5 worth: what it was (any number)");
        DayBehind x = new DayBehind();
        x.event(0, -1);
        int[] worths = {-99, 99, 0, -1, -1};
        int was = -1;
        for (int v : worths) {
            due.is("worth(0, " + v + ")", x.worth(0, v), was);
            was = v;
        }
    }

    // ---- people

    private static void one() {
        due.part("6 one: the number, from 0 to 7");
        DayBehind x = new DayBehind();
        for (int i = 0; i < 8; i++) {
            due.is("one " + i, x.one(i < 6 ? 5 - i : 0, i % 2), i);
        }
        due.is("the first", x.of(0, 0), LOVER);
        due.is("the last", x.of(7, 1), LEFT);
    }

    private static void set() {
        due.part("8 set: what it was (any number)");
        DayBehind x = new DayBehind();
        x.one(PERSON, RIGHT);
        for (int e = 0; e < 8; e++) {
            x.event(5, 5);
        }
        int[][] rows = {{1, 0, 1, 0}, {2, 50, 0, 9999}, {3, -1, 23, 0, -1}, {4, -1, 0, 23, -1}, {6, 0, 255, 128, 0}};
        for (int[] row : rows) {
            for (int i = 2; i < row.length; i++) {
                due.is("set(0, " + row[0] + ", " + row[i] + ")", x.set(0, row[0], row[i]), row[i - 1]);
            }
            due.is("of(0, " + row[0] + ")", x.of(0, row[0]), row[row.length - 1]);
        }
        due.is("KIND and CROSSED stay", x.of(0, 0) + x.of(0, 5), 0);
        due.is("no TOLL is paid for a BANK that is set", x.of(0, 2), 9999);
    }

    private static void turn() {
        due.part("9 turn: what it was");
        DayBehind x = Scene.lively();
        int[] kinds = {5, 0, 1, 2, 3, 4, 4};
        int was = PERSON;
        for (int kind : kinds) {
            due.is("turn(0, " + kind + ")", x.turn(0, kind), was);
            was = kind;
        }
        due.is("KIND", x.of(0, 0), FIREMAN);
    }

    private static void as() {
        due.part("10 as: PURSE");
        for (int purse : new int[] {0, 1, 9999}) {
            DayBehind x = withOne(LOVER, LEFT, purse);
            due.is("as itself", x.as(0, LOVER), purse);
            due.is("as the KIND above", x.as(0, DEBTOR), purse);
            due.is("as the KIND above that", x.as(0, PERSON), purse);
            due.is("as a KIND beside", x.as(0, TELLER), Due.KIND);
        }
        DayBehind y = withOne(DEBTOR, LEFT, 7);
        due.is("as a KIND under it", y.as(0, LOVER), Due.KIND);
        y.turn(0, FIREMAN);
        due.is("after a turn", y.as(0, TELLER), 7);
        due.is("after a turn, as what it was", y.as(0, DEBTOR), Due.KIND);
    }

    private static void gains() {
        due.part("11 gains: any number, and nobody GAINS by it");
        DayBehind x = withOne(BAKER, RIGHT, 9999);
        due.is("more than a PURSE has room for", x.gains(0, 99, 0), 148);
        x.set(0, 2, 0);
        due.is("less than is in a PURSE", x.gains(0, -99, 0), -148);
        due.is("PURSE", x.of(0, 2), 0);
    }

    private static void cross() {
        due.part("12 cross: its BANK then (it pays TOLL)");
        DayBehind x = withOne(PERSON, RIGHT, 11);
        due.is("over", x.cross(0), LEFT);
        due.is("and back", x.cross(0), RIGHT);
        due.is("1 is left", x.of(0, 2), 1);
        due.is("no more", x.cross(0), Due.STATE);
        due.is("CROSSED", x.of(0, 5), 2);
        x.toll(1);
        due.is("with just the TOLL", x.cross(0), LEFT);
        due.is("nothing is left", x.of(0, 2), 0);
        x.toll(0);
        due.is("for nothing, with nothing", x.cross(0), RIGHT);
        due.is("CROSSED", x.of(0, 5), 4);
        due.is("no HOUR has gone", x.now(0), 0);
    }

    private static void tells() {
        due.part("13 tells: how many EVENTS are new to that one");
        DayBehind x = new DayBehind();
        x.one(PERSON, LEFT);
        x.one(PERSON, LEFT);
        due.is("there are none", x.tells(0, 1), 0);
        for (int e = 0; e < 8; e++) {
            x.event(500, 1);
        }
        due.is("it KNOWS none", x.tells(0, 1), 0);
        x.set(0, 6, 255);
        due.is("all", x.tells(0, 1), 8);
        due.is("none is new", x.tells(0, 1), 0);
        due.is("nor back", x.tells(1, 0), 0);
        x.set(1, 6, 127);
        due.is("the last", x.tells(0, 1), 1);
        x.set(0, 6, 0);
        due.is("who KNOWS none takes none away", x.tells(0, 1), 0);
        due.is("KNOWS", x.of(1, 6), 255);
    }

    // ---- hours

    private static void hoursFewAndMany() {
        due.part("14 hours: n HOURS go (1 to 72): PURSES of all together then");
        DayBehind x = new DayBehind();
        due.is("nobody", x.hours(72), 0);
        due.is("THE HOUR", x.now(0), 72);
        due.is("nobody", x.hours(1), 0);
        due.is("THE HOUR", x.now(0), 73);
        for (int i = 0; i < 8; i++) {
            x.one(PERSON, RIGHT);
            x.set(i, 2, 9999);
        }
        due.is("all that can be", x.hours(1), 8 * 9999);
        DayBehind y = withOne(PERSON, RIGHT, 50);
        y.event(71, 1);
        y.event(72, 1);
        due.is("72 HOURS: those of 0 to 71", y.hours(72), 51);
    }

    private static void now() {
        due.part("15 now");
        DayBehind x = new DayBehind();
        for (int i = 0; i < 8; i++) {
            x.one(FIREMAN, LEFT);
            x.event(500, -1);
            x.set(i, 2, 9999);
            x.set(i, 6, 1 << i);
            x.cross(i);
            x.cross(i);
        }
        x.hours(24);
        int[] full = {24, 0, 8 * 9989, 16, 255, 255};
        for (int what = 0; what < 6; what++) {
            due.is("now(" + what + ")", x.now(what), full[what]);
        }
    }

    private static void on() {
        due.part("16 on: ON n HOURS (0 to 72)");
        DayBehind x = withOne(PERSON, RIGHT, 50);
        x.event(0, 1);
        x.event(71, 2);
        x.event(72, 4);
        x.set(0, 3, 71 % 24);
        int[][] rows = {{0, 50, 0, 0, 0}, {1, 51, 0, 0, 1}, {23, 51, 0, 0, 1}, {24, 46, 1, 1, 1}, {25, 48, 1, 1, 1},
            {71, 48, 1, 1, 1}, {72, 48, 1, 1, 1}};
        for (int[] row : rows) {
            for (int what = 0; what < 4; what++) {
                due.is("on(0, " + row[0] + ", " + what + ")", x.on(0, row[0], what), row[what + 1]);
            }
        }
        x.set(0, 3, -1);
        due.is("on(0, 71, 0)", x.on(0, 71, 0), 51);
        due.is("on(0, 72, 0)", x.on(0, 72, 0), 53);
        due.is("on(0, 72, 3)", x.on(0, 72, 3), 3);
    }

    private static void learns() {
        due.part("17 learns: in how many HOURS (0 to 72) ON one KNOWS an EVENT first");
        DayBehind x = withOne(PERSON, RIGHT, 50);
        int[] hours = {0, 1, 70, 71, 72, 73, 9999};
        int[] when = {1, 2, 71, 72, NONE, NONE, NONE};
        for (int e = 0; e < hours.length; e++) {
            x.event(hours[e], 1);
            due.is("EVENT at " + hours[e], x.learns(0, e), when[e]);
        }
        x.set(0, 6, 1 << 6);
        due.is("KNOWN already", x.learns(0, 6), 0);
        DayBehind y = withOne(TELLER, LEFT, 50);
        int[] leftHours = {0, 46, 47, 48, 49};
        int[] leftWhen = {25, 71, 72, NONE, NONE};
        for (int e = 0; e < leftHours.length; e++) {
            y.event(leftHours[e], 1);
            due.is("on the LEFT, EVENT at " + leftHours[e], y.learns(0, e), leftWhen[e]);
        }
        y.hours(1);
        due.is("its HOUR is gone on the RIGHT", y.learns(0, 0), 24);
    }

    private static void first() {
        due.part("18 first: who KNOWS an EVENT first (within 72 HOURS); of several the least");
        DayBehind x = new DayBehind();
        int[] hours = {0, 71, 72, 48, 47};
        for (int hour : hours) {
            x.event(hour, 1);
        }
        for (int e = 0; e < hours.length; e++) {
            due.is("nobody, EVENT at " + hours[e], x.first(e), NONE);
        }
        x.one(PERSON, LEFT);
        int[] alone = {0, NONE, NONE, NONE, 0};
        for (int e = 0; e < hours.length; e++) {
            due.is("on the LEFT, EVENT at " + hours[e], x.first(e), alone[e]);
        }
        x.one(PERSON, RIGHT);
        x.one(PERSON, RIGHT);
        int[] several = {1, 1, NONE, 1, 1};
        for (int e = 0; e < hours.length; e++) {
            due.is("of several, EVENT at " + hours[e], x.first(e), several[e]);
        }
        x.set(2, 6, 4);
        due.is("who KNOWS it already", x.first(2), 2);
        x.set(0, 6, 4);
        due.is("of several who do", x.first(2), 0);
        for (int i = 3; i < 8; i++) {
            x.one(PERSON, RIGHT);
        }
        x.set(0, 6, 0);
        x.set(2, 6, 0);
        x.set(7, 6, 4);
        due.is("the last of eight", x.first(2), 7);
    }

    private static void met() {
        due.part("19 met: EVENTS that are MET ON n HOURS (0 to 72)");
        DayBehind x = withOne(FIREMAN, RIGHT, 50);
        x.event(70, -1);
        x.event(71, -1);
        x.set(0, 3, 23);
        x.set(0, 6, 1);
        due.is("met(0)", x.met(0), 0);
        due.is("met(23)", x.met(23), 0);
        due.is("met(24)", x.met(24), 1);
        due.is("met(72)", x.met(72), 1);
        x.hours(24);
        due.is("MET already: met(0)", x.met(0), 1);
        DayBehind y = withOne(FIREMAN, LEFT, 50);
        y.one(PERSON, RIGHT);
        y.event(60, -1);
        y.hours(1);
        y.set(1, 3, 0);
        y.one(TELLER, RIGHT);
        y.set(2, 3, 0);
        y.set(2, 6, 1);
        due.is("met(23): the TELLER comes at CLOCK 0", y.met(23), 0);
        due.is("met(24)", y.met(24), 1);
    }

    private static void broke() {
        due.part("20 broke: in how many HOURS (0 to 72) ON one can't pay TOLL first");
        int[] hours = {0, 70, 71, 72};
        int[] when = {1, 71, 72, NONE};
        for (int i = 0; i < hours.length; i++) {
            DayBehind x = withOne(PERSON, RIGHT, 50);
            x.event(hours[i], -46);
            due.is("46 less at " + hours[i], x.broke(0), when[i]);
            x.worth(0, -45);
            due.is("45 less at " + hours[i] + ": just TOLL is left", x.broke(0), NONE);
        }
        due.is("at once", withOne(PERSON, RIGHT, 4).broke(0), 0);
        due.is("just TOLL", withOne(PERSON, RIGHT, 5).broke(0), NONE);
        DayBehind y = withOne(PERSON, RIGHT, 0);
        due.is("with nothing", y.broke(0), 0);
        y.toll(0);
        due.is("with nothing, TOLL 0", y.broke(0), NONE);
        DayBehind z = withOne(PERSON, RIGHT, 9);
        z.set(0, 3, 6);
        z.set(0, 4, 7);
        due.is("by crossing at 6", z.broke(0), 7);
    }

    // ---- clocks, tolls

    private static void clocksLeast() {
        due.part("21 clocks: (each 0 to 23) of several the least");
        DayBehind x = withOne(PERSON, RIGHT, 50);
        x.set(0, 3, 9);
        x.set(0, 4, 9);
        due.is("ON 0", x.clocks(0, 0), 0);
        due.is("ON 1: not at 0", x.clocks(0, 1), 24);
        due.is("ON 23: not but at 23", x.clocks(0, 23), 24 * 23);
        due.is("ON 24: at any, and not back", x.clocks(0, 24), 0);
        due.is("ON 48: at 0, and back at 24 alone", x.clocks(0, 48), 0);
        DayBehind y = withOne(PERSON, LEFT, 50);
        due.is("on the LEFT, ON 1", y.clocks(0, 1), 1);
        due.is("on the LEFT, ON 23", y.clocks(0, 23), 23);
        due.is("who can't pay", withOne(PERSON, LEFT, 4).clocks(0, 48), 0);
        due.is("who has nothing", withOne(PERSON, LEFT, 0).clocks(0, 48), 0);
        due.is("of nothing else than now", y.of(0, 4), -1);
    }

    private static void clocksMost() {
        due.part("21 clocks: by which its PURSE is most ON n HOURS (0 to 48)");
        DayBehind x = withOne(PERSON, RIGHT, 50);
        x.toll(20);
        x.event(22, 99);
        // 99 on the RIGHT at 22, over at 23, twice 99 on the LEFT at 46, and not back ere 47: the last pair there is.
        due.is("ON 47", x.clocks(0, 47), 24 * 23 + 23);
        due.is("PURSE", x.rich(0, 47), 50 + 99 - 20 + 198);
        due.is("ON 48: back at 47 at the latest, or at once", x.rich(0, 48), 50 + 99 - 20 + 198 - 20);
    }

    private static void rich() {
        due.part("22 rich: what its PURSE is then");
        DayBehind x = withOne(PERSON, RIGHT, 50);
        due.is("ON 0", x.rich(0, 0), 50);
        due.is("ON 23", x.rich(0, 23), 50);
        due.is("ON 24: one TOLL", x.rich(0, 24), 45);
        due.is("none", withOne(PERSON, RIGHT, 0).rich(0, 48), 0);
        DayBehind y = withOne(PERSON, RIGHT, 9999);
        y.event(0, 99);
        y.toll(0);
        due.is("all that can be", y.rich(0, 48), 9999);
    }

    private static void bears() {
        due.part("23 bears: the greatest TOLL (0 to 99)");
        DayBehind x = withOne(PERSON, RIGHT, 9999);
        x.set(0, 3, 0);
        due.is("ON 0", x.bears(9999, 0), 99);
        due.is("9900: the last", x.bears(9900, 1), 99);
        due.is("9901", x.bears(9901, 1), 98);
        due.is("9998", x.bears(9998, 1), 1);
        due.is("9999: the first", x.bears(9999, 1), 0);
        due.is("10000", x.bears(10000, 1), NONE);
        due.is("0", x.bears(0, 1), 99);
        due.is("ON 48", x.bears(9999, 48), 0);
        due.is("TOLL stays", x.toll(5), 5);
        x.set(0, 2, 60);
        due.is("61 is too dear to cross, so is 99", x.bears(60, 1), 99);
    }

    private static void bearsPurses() {
        due.part("23 bears: PURSES of all together are v (0 to 99999) or more");
        DayBehind x = new DayBehind();
        due.is("nobody, 0", x.bears(0, 48), 99);
        due.is("nobody, 1", x.bears(1, 48), NONE);
        for (int i = 0; i < 8; i++) {
            x.one(PERSON, i % 2);
            x.set(i, 2, 9999);
        }
        due.is("all that can be", x.bears(79992, 48), 99);
        due.is("one more", x.bears(79993, 48), NONE);
        due.is("the last v", x.bears(99999, 48), NONE);
    }

    private static void bank() {
        due.part("24 bank: the RIGHT, if it is the same");
        DayBehind x = withOne(PERSON, LEFT, 50);
        due.is("ON 0", x.bank(0, 0), RIGHT);
        due.is("ON 72, nothing comes", x.bank(0, 72), RIGHT);
        due.is("who has nothing", withOne(PERSON, LEFT, 0).bank(0, 72), RIGHT);
        x.event(0, 1);
        due.is("ON 1", x.bank(0, 1), RIGHT);
        due.is("ON 25: as much", x.bank(0, 25), RIGHT);
        x.worth(0, -1);
        due.is("less on the RIGHT", x.bank(0, 1), LEFT);
        due.is("ON 24", x.bank(0, 24), LEFT);
        due.is("ON 25: as little", x.bank(0, 25), RIGHT);
        x.event(47, 1);
        due.is("ON 71", x.bank(0, 71), RIGHT);
        DayBehind y = withOne(PERSON, RIGHT, 9999);
        y.hours(1);
        y.event(0, 5);
        due.is("the PURSE is full", y.bank(0, 72), RIGHT);
        y.set(0, 2, 9998);
        due.is("there is room for 1", y.bank(0, 24), LEFT);
        due.is("it has not come yet", y.bank(0, 23), RIGHT);
    }

    private static void kind() {
        due.part("25 kind: of several the least");
        DayBehind x = withOne(LOVER, RIGHT, 50);
        due.is("ON 0", x.kind(0, 0), PERSON);
        due.is("ON 72, nothing comes", x.kind(0, 72), PERSON);
        due.is("who has nothing", withOne(LOVER, LEFT, 0).kind(0, 72), PERSON);
        x.event(0, 0);
        due.is("WORTH 0: a LOVER has 3", x.kind(0, 1), LOVER);
        x.worth(0, 3);
        due.is("WORTH 3: 3, 4, 1, 3, 3, 4", x.kind(0, 1), BAKER);
        x.worth(0, 2);
        due.is("WORTH 2: 2, 3, 1, 2, 2, 4", x.kind(0, 1), LOVER);
        x.worth(0, 4);
        due.is("WORTH 4: 4, 6, 2, 4, 4, 5", x.kind(0, 1), BAKER);
        x.worth(0, -9);
        x.set(0, 2, 0);
        due.is("nothing to lose: 0 but for none", x.kind(0, 1), PERSON);
        x.set(0, 6, 1);
        due.is("KNOWN: a LOVER has 9", x.kind(0, 1), LOVER);
        x.set(0, 2, 9999);
        due.is("the PURSE is full", x.kind(0, 1), PERSON);
        due.is("ON 72", x.kind(0, 72), PERSON);
    }

    private static void newsMoreThanNought() {
        due.part("26 news: adds most to its PURSE, more than 0");
        DayBehind x = withOne(PERSON, RIGHT, 50);
        due.is("no EVENTS", x.news(0, 72), NONE);
        x.event(0, 0);
        due.is("adds 0", x.news(0, 72), NONE);
        x.worth(0, 1);
        due.is("adds 1", x.news(0, 72), 0);
        due.is("ON 0", x.news(0, 0), NONE);
        x.set(0, 2, 9998);
        due.is("no room for more", x.news(0, 72), NONE);
        x.set(0, 2, 0);
        x.worth(0, -1);
        due.is("nothing to lose", x.news(0, 72), NONE);
        x.set(0, 2, 1);
        due.is("1 to lose", x.news(0, 72), 0);
        x.set(0, 6, 1);
        due.is("it KNOWS it", x.news(0, 72), NONE);
        DayBehind y = withOne(DEBTOR, RIGHT, 50);
        y.event(0, 1);
        due.is("a DEBTOR: 1 for 0", y.news(0, 1), 0);
        y.worth(0, 0);
        due.is("a DEBTOR: -1 for 0", y.news(0, 1), NONE);
        DayBehind z = withOne(PERSON, RIGHT, 50);
        z.event(71, 9);
        due.is("ON 71", z.news(0, 71), NONE);
        due.is("ON 72", z.news(0, 72), 0);
    }

    private static void newsOfSeveral() {
        due.part("26 news: of several the least");
        DayBehind x = withOne(PERSON, RIGHT, 50);
        for (int e = 0; e < 8; e++) {
            x.event(e, 7);
        }
        due.is("all as much", x.news(0, 72), 0);
        x.worth(7, -8);
        due.is("the last adds 1 more", x.news(0, 72), 7);
        x.set(0, 6, 0b10001111);
        due.is("of those that it doesn't KNOW", x.news(0, 72), 4);
        x.set(0, 6, 255);
        due.is("it KNOWS all", x.news(0, 72), NONE);
    }

    private static void neededFewer() {
        due.part("27 needed: fewer than as it is");
        DayBehind x = new DayBehind();
        due.is("nobody", x.needed(72), NONE);
        x.one(FIREMAN, LEFT);
        x.event(60, -1);
        due.is("nothing is MET", x.needed(72), NONE);
        x.set(0, 6, 1);
        due.is("ON 0", x.needed(0), NONE);
        due.is("ON 1", x.needed(1), 0);
        due.is("ON 72", x.needed(72), 0);
        x.one(FIREMAN, LEFT);
        x.set(1, 6, 1);
        due.is("either one is enough", x.needed(72), NONE);
        x.hours(1);
        x.set(1, 1, RIGHT);
        due.is("MET already", x.needed(72), NONE);
        DayBehind y = withOne(FIREMAN, RIGHT, 50);
        y.set(0, 3, 23);
        y.event(71, -1);
        y.set(0, 6, 1);
        due.is("ON 23", y.needed(23), NONE);
        due.is("ON 24", y.needed(24), 0);
    }

    private static void neededOfSeveral() {
        due.part("27 needed: lets fewest EVENTS be MET; of several the least");
        DayBehind x = new DayBehind();
        for (int i = 0; i < 8; i++) {
            x.one(i < 6 ? PERSON : FIREMAN, LEFT);
            x.event(60, -1);
        }
        x.set(6, 6, 0b00001111);
        x.set(7, 6, 0b11110000);
        due.is("both meet four, and each other's", x.needed(1), 6);
        x.set(6, 6, 0b00000111);
        due.is("the last meets more", x.needed(1), 7);
        x.set(6, 6, 0b11111111);
        due.is("all that the last meets is MET anyway", x.needed(1), 6);
        due.is("nobody is gone", x.count(0), 8);
    }

    private static void sum() {
        due.part("28 sum: by how much PURSES are more (below 0, too)");
        DayBehind x = new DayBehind();
        x.event(0, 99);
        due.is("nobody", x.sum(0, 72), 0);
        for (int i = 0; i < 8; i++) {
            x.one(PERSON, RIGHT);
        }
        due.is("ON 0", x.sum(0, 0), 0);
        due.is("ON 1", x.sum(0, 1), 8 * 99);
        x.worth(0, -99);
        due.is("below 0, as much as there is", x.sum(0, 1), -8 * 50);
        x.worth(0, 0);
        due.is("WORTH 0", x.sum(0, 72), 0);
        x.worth(0, 99);
        for (int i = 0; i < 8; i++) {
            x.set(i, 2, 9999);
        }
        due.is("the PURSES are full", x.sum(0, 72), 0);
        DayBehind y = withOne(PERSON, RIGHT, 50);
        y.event(71, 3);
        due.is("ON 71", y.sum(0, 71), 0);
        due.is("ON 72", y.sum(0, 72), 3);
        y.event(0, 20);
        y.set(0, 3, 1);
        due.is("what comes and what is paid anyway does not count", y.sum(0, 72), 0);
        due.is("of that itself: on the RIGHT, and KNOWN on the LEFT", y.sum(1, 72), 20 + 40);
    }

    // ---- the text

    private static void feedBytes() {
        due.part("29 feed: the n lowest bytes of a number, the highest of these first");
        String[] tapes = {"7", " 7", "l 7", "ll 7"};
        String[] ahead = {"toll ", "toll", "tol", "to"};
        int number = 0x6C6C2037;
        for (int n = 1; n <= 4; n++) {
            DayBehind x = new DayBehind();
            Due.feed(x, ahead[n - 1]);
            due.is("'" + tapes[n - 1] + "'", x.feed(number, n), ahead[n - 1].length() + n);
            due.is("river()", x.river(), 1);
            due.is("toll(0)", x.toll(0), 7);
        }
        DayBehind y = new DayBehind();
        Due.feed(y, "toll ");
        due.is("bytes above are left out", y.feed(0xFFFFFF37, 1), 6);
        due.is("river()", y.river(), 1);
        due.is("toll(0)", y.toll(0), 7);
        due.is("a number below 0", y.feed(-1, 4), 4);
        due.is("its bytes begin no TOKEN", y.river(), -1);
    }

    private static void feedUpToFull() {
        due.part("29 feed: how many it has; FULL");
        for (int n = 1; n <= 4; n++) {
            DayBehind x = new DayBehind();
            for (int had = n; had <= 120; had += n) {
                due.is("feed " + n, x.feed(0x20202020, n), had);
            }
            due.is("feed " + n + ", full", x.feed(0x20202020, n), Due.FULL);
            due.is("feed 1, full", x.feed(0x20202020, 1), Due.FULL);
            due.is("count(2)", x.count(2), 120);
            due.is("wipe()", x.wipe(), 120);
            due.is("feed " + n + " again", x.feed(0x20202020, n), n);
        }
    }

    private static void wipe() {
        due.part("30 wipe: how many it had");
        DayBehind x = new DayBehind();
        due.is("none", x.wipe(), 0);
        x.feed('#', 1);
        due.is("one", x.wipe(), 1);
        due.is("none then", x.wipe(), 0);
        Due.feed(x, "toll 7");
        x.river();
        due.is("none after river()", x.wipe(), 0);
        due.is("what was wiped is not read", Due.river(x, "toll 8"), 1);
    }

    // ---- sheets

    private static void sheetOfNone() {
        due.part("32 sheet: n numbers, none too");
        DayBehind x = withOne(PERSON, RIGHT, 50);
        due.is("sheet(0, 8, 0)", x.sheet(0, 8, 0), 0);
        due.is("it is not MISSING", x.write(0, 0, 1L), Due.BEYOND);
        due.is("lays(0)", x.lays(0), 0);
        due.is("book(0, 0)", x.book(0, 0), 0);
        due.is("copy(0, 0, 0, 0, 0)", x.copy(0, 0, 0, 0, 0), 0);
        due.is("read(0, 0)", x.read(0, 0), 625);
    }

    private static void sheetIsAllNought() {
        due.part("32 sheet: all 0");
        DayBehind x = new DayBehind();
        for (int bits : new int[] {8, 16, 64}) {
            x.sheet(1, bits, 40);
            for (int i = 0; i < 40; i++) {
                due.is("number " + i + " of " + bits, x.write(1, i, -1L), 0);
            }
        }
        x.sheet(1, 64, 3);
        due.is("anew, fewer", x.write(1, 2, -1L), 0);
        x.sheet(1, 64, 40);
        due.is("anew, more", x.write(1, 39, -1L), 0);
        x.sheet(1, 0, 40);
        x.sheet(1, 64, 40);
        due.is("anew, MISSING in between", x.write(1, 39, -1L), 0);
    }

    private static void sheetIsMissing() {
        due.part("32 sheet: bits 0: it is MISSING: n (0 if it is MISSING)");
        DayBehind x = new DayBehind();
        for (int n : new int[] {0, 1, 40}) {
            x.sheet(2, 8, 5);
            due.is("sheet(2, 0, " + n + ")", x.sheet(2, 0, n), 0);
            due.is("it is MISSING", x.lays(2), Due.MISSING);
            due.is("and again", x.sheet(2, 0, n), 0);
        }
    }

    private static void writeLowestBits() {
        due.part("33 write: its lowest bits: what it was");
        DayBehind x = new DayBehind();
        int[] bits = {8, 16, 64};
        for (int s = 0; s < 3; s++) {
            x.sheet(s, bits[s], 1);
        }
        long[] written = {127, 128, 255, 256, 257, -128, -129, 32767, 32768, 65535, 65536, -32768, -32769, 1L << 31,
            1L << 32, Long.MAX_VALUE, Long.MIN_VALUE, -1, 0};
        long[] of8 = {127, -128, -1, 0, 1, -128, 127, -1, 0, -1, 0, 0, -1, 0, 0, -1, 0, -1, 0};
        long[] of16 = {127, 128, 255, 256, 257, -128, -129, 32767, -32768, -1, 0, -32768, 32767, 0, 0, -1, 0, -1, 0};
        for (int i = 0; i < written.length; i++) {
            long[] left = {of8[i], of16[i], written[i]};
            for (int s = 0; s < 3; s++) {
                x.write(s, 0, written[i]);
                due.is(written[i] + " in " + bits[s] + " bits", x.write(s, 0, 5L), left[s]);
            }
        }
        due.is("no finding", x.status(-1), 0);
        x.write(2, 0, -1000000006L);
        due.is("a number that looks like a finding is none", x.write(2, 0, 0L), -1000000006L);
        due.is("status(-1)", x.status(-1), 0);
    }

    private static void copyNone() {
        due.part("34 copy: n numbers, none too");
        DayBehind x = new DayBehind();
        x.sheet(0, 8, 2);
        x.sheet(1, 8, 3);
        x.write(0, 1, 7L);
        x.write(1, 2, 9L);
        due.is("none from behind the last to behind the last", x.copy(0, 2, 1, 3, 0), 0);
        due.is("the last to the last", x.copy(0, 1, 1, 2, 1), 1);
        numbers(x, 1, 0, 0, 7);
        numbers(x, 0, 0, 7);
    }

    private static void copyAll() {
        due.part("34 copy: as many as there are");
        for (int bits : new int[] {8, 16, 64}) {
            DayBehind x = new DayBehind();
            x.sheet(0, bits, 40);
            x.sheet(3, bits, 40);
            for (int i = 0; i < 40; i++) {
                x.write(0, i, i - 20L);
            }
            due.is("all forty", x.copy(0, 0, 3, 0, 40), 40);
            due.is("one more", x.copy(0, 0, 3, 0, 41), Due.BEYOND);
            due.is("one on", x.copy(0, 1, 3, 0, 40), Due.BEYOND);
            due.is("to one on", x.copy(0, 0, 3, 1, 40), Due.BEYOND);
            for (int i = 0; i < 40; i++) {
                due.is("number " + i, x.write(3, i, 0L), i - 20L);
            }
        }
    }

    private static void copyAsTheyAllWere() {
        due.part("34 copy: (as they all were), of a sheet to itself");
        DayBehind x = new DayBehind();
        x.sheet(0, 16, 5);
        for (int i = 0; i < 5; i++) {
            x.write(0, i, 1L + i);
        }
        due.is("one on", x.copy(0, 0, 0, 1, 4), 4);
        numbers(x, 0, 1, 1, 2, 3, 4);
        due.is("one back", x.copy(0, 1, 0, 0, 4), 4);
        numbers(x, 0, 1, 2, 3, 4, 4);
        due.is("to where they are", x.copy(0, 0, 0, 0, 5), 5);
        numbers(x, 0, 1, 2, 3, 4, 4);
    }

    private static void laysWithinBounds() {
        due.part("35 lays: those that aren't 0 to 9999 are left out");
        long[] v = {-1, 0, 9999, 10000, Long.MIN_VALUE, Long.MAX_VALUE, 1L << 32, (1L << 32) + 7};
        int[] purses = {50, 0, 9999, 50, 50, 50, 50, 50};
        DayBehind x = new DayBehind();
        x.sheet(0, 64, 8);
        for (int i = 0; i < 8; i++) {
            x.one(PERSON, i % 2);
            x.write(0, i, v[i]);
        }
        due.is("how many came", x.lays(0), 2);
        for (int i = 0; i < 8; i++) {
            due.is("PURSE from " + v[i], x.of(i, 2), purses[i]);
        }
        numbers(x, 0, v);
    }

    private static void laysForNone() {
        due.part("35 lays: those that stand for none are left out");
        DayBehind x = new DayBehind();
        x.sheet(0, 64, 40);
        x.sheet(1, 64, 1);
        due.is("nobody", x.lays(0), 0);
        for (int i = 0; i < 8; i++) {
            x.one(PERSON, RIGHT);
            due.is("forty numbers, PEOPLE " + (i + 1), x.lays(0), i + 1);
        }
        x.set(1, 2, 77);
        x.write(1, 0, 66L);
        due.is("one number, PEOPLE 8", x.lays(1), 1);
        due.is("the first", x.of(0, 2), 66);
        due.is("the next is left", x.of(1, 2), 77);
    }

    private static void laysOfFewBits() {
        due.part("35 lays: of a sheet of few bits");
        DayBehind x = new DayBehind();
        x.sheet(0, 8, 4);
        x.sheet(1, 16, 4);
        long[] of8 = {127, 128, 255, 256};
        long[] of16 = {9999, 10000, 65535, 65536 + 5};
        for (int i = 0; i < 4; i++) {
            x.one(PERSON, RIGHT);
            x.write(0, i, of8[i]);
            x.write(1, i, of16[i]);
        }
        due.is("8 bits", x.lays(0), 2);
        int[] then = {127, 50, 50, 0};
        for (int i = 0; i < 4; i++) {
            due.is("PURSE " + i, x.of(i, 2), then[i]);
        }
        due.is("16 bits", x.lays(1), 2);
        int[] after = {9999, 50, 50, 5};
        for (int i = 0; i < 4; i++) {
            due.is("PURSE " + i, x.of(i, 2), after[i]);
        }
    }

    private static void bookOfNoneAndForty() {
        due.part("36 book: ON 0, 1, 2, .. HOURS, as many as it has numbers");
        DayBehind x = withOne(PERSON, RIGHT, 50);
        x.event(0, 1);
        x.event(38, 2);
        x.event(39, 4);
        x.sheet(0, 64, 0);
        due.is("none", x.book(0, 0), 0);
        x.sheet(0, 64, 1);
        due.is("one", x.book(0, 0), 1);
        numbers(x, 0, 50);
        x.sheet(0, 64, 40);
        due.is("forty", x.book(0, 0), 40);
        numbers(x, 0, 50, 51);
        due.is("the last but one", x.write(0, 38, 0L), 51);
        due.is("the last: ON 39", x.write(0, 39, 0L), 53);
        due.is("THE HOUR", x.now(0), 0);
        due.is("PURSE", x.of(0, 2), 50);
    }

    private static void bookOfFewBits() {
        due.part("36 book: to a sheet of few bits");
        int[] purses = {127, 128, 255, 256, 9999};
        long[] of8 = {127, -128, -1, 0, 15};
        for (int i = 0; i < purses.length; i++) {
            DayBehind x = withOne(PERSON, RIGHT, purses[i]);
            x.sheet(0, 8, 1);
            x.sheet(1, 16, 1);
            x.book(0, 0);
            x.book(1, 0);
            numbers(x, 0, of8[i]);
            numbers(x, 1, purses[i]);
            due.is("read of 8 bits", x.read(0, 0), of8[i] == purses[i] ? 625 : 0);
            due.is("read of 16 bits", x.read(1, 0), 625);
        }
    }

    private static void readOfNone() {
        due.part("37 read: how many pairs (none, -1, too): 25 times 25 at most");
        DayBehind x = withOne(PERSON, RIGHT, 50);
        x.sheet(0, 64, 0);
        due.is("of no numbers", x.read(0, 0), 625);
        x.sheet(0, 64, 1);
        due.is("of a number that it isn't", x.read(0, 0), 0);
        x.write(0, 0, 50L);
        due.is("of a number that it is", x.read(0, 0), 625);
        x.write(0, 0, 51L);
        due.is("1 more", x.read(0, 0), 0);
        x.write(0, 0, 49L);
        due.is("1 less", x.read(0, 0), 0);
        x.write(0, 0, 50L + (1L << 32));
        due.is("the same lowest bits", x.read(0, 0), 0);
    }

    private static void readOfForty() {
        due.part("37 read: ON 0, 1, 2, .. HOURS, as many as it has numbers");
        DayBehind x = withOne(PERSON, RIGHT, 50);
        x.sheet(0, 64, 40);
        x.book(0, 0);
        // It stays: GOES none, and COMES any.
        due.is("who stays 39 HOURS", x.read(0, 0), 25);
        x.write(0, 39, 45L);
        due.is("who goes in the last HOUR, 38: then at 14 before", x.read(0, 0), 0);
        x.set(0, 2, 4);
        x.book(0, 0);
        due.is("who can't pay stays by any", x.read(0, 0), 625);
        x.set(0, 2, 0);
        x.toll(0);
        x.book(0, 0);
        due.is("who crosses for nothing", x.read(0, 0), 625);
    }

    private static void readClocksAtTheEnds() {
        due.part("37 read: GOES and COMES from none to 23, in place of what they are");
        DayBehind x = withOne(PERSON, RIGHT, 50);
        x.sheet(0, 16, 26);
        int[][] pairs = {{-1, -1}, {-1, 23}, {0, -1}, {0, 0}, {0, 23}, {23, -1}, {23, 0}, {23, 23}};
        // Of those who go at 23, the sheet's last HOUR, 24, tells who comes at 0 from all who don't.
        int[] many = {25, 25, 1, 1, 1, 24, 1, 24};
        for (int i = 0; i < pairs.length; i++) {
            x.set(0, 3, pairs[i][0]);
            x.set(0, 4, pairs[i][1]);
            x.book(0, 0);
            x.set(0, 3, 7);
            x.set(0, 4, 7);
            due.is("GOES " + pairs[i][0] + ", COMES " + pairs[i][1], x.read(0, 0), many[i]);
        }
        due.is("GOES stays", x.of(0, 3), 7);
    }

    // ---- images

    private static void imageOfNothing() {
        due.part("38 image, 39 undo: of a river with nothing in it");
        DayBehind x = new DayBehind();
        due.is("image()", x.image(), 1);
        due.is("undo()", x.undo(), 0);
        for (int i = 0; i < 8; i++) {
            x.one(FIREMAN, LEFT);
            x.event(i, -9);
            x.set(i, 6, 255 >> (7 - i));
        }
        x.toll(9);
        x.hours(30);
        due.is("undo()", x.undo(), 0);
        DayBehind fresh = new DayBehind();
        fresh.image();
        due.holds("it is as new", Scene.telling(x).equals(Scene.telling(fresh)));
    }

    private static void imageOfAll() {
        due.part("38 image: all that section 1 tells (THE TAPE not) is kept");
        DayBehind x = Scene.full();
        x.image();
        x.toll(77);
        x.hours(40);
        for (int i : new int[] {0, 7}) {
            x.turn(i, LOVER);
            x.set(i, 1, 1 - i % 2);
            x.set(i, 2, 3 * i);
            x.set(i, 3, i);
            x.set(i, 4, i);
            x.set(i, 6, 170);
            x.worth(i, 60 - i);
        }
        x.undo();
        DayBehind y = Scene.full();
        y.image();
        due.holds("all is as it was", Scene.telling(x).equals(Scene.telling(y)));
        DayBehind z = Scene.full();
        z.image();
        z.wipe();
        z.feed('x', 1);
        z.sheet(0, 0, 0);
        z.sheet(1, 8, 1);
        z.undo();
        due.is("THE TAPE stays", z.count(2), 1);
        due.is("a sheet stays MISSING", z.lays(0), Due.MISSING);
        due.is("a sheet stays", z.write(1, 0, 1L), 0);
    }

    private static void undoStays() {
        due.part("39 undo: what was kept latest (which stays): how many PEOPLE");
        DayBehind x = new DayBehind();
        x.image();
        for (int i = 0; i < 8; i++) {
            x.one(PERSON, RIGHT);
        }
        x.image();
        x.toll(9);
        due.is("the latest", x.undo(), 8);
        due.is("TOLL", x.toll(9), 5);
        due.is("it stays", x.undo(), 8);
        due.is("TOLL", x.toll(9), 5);
        due.is("and stays", x.undo(), 8);
        x.hours(1);
        x.set(7, 2, 1);
        x.undo();
        due.is("what is done later does not come to it", x.of(7, 2), 50);
    }

    private static void undoToFewer() {
        due.part("39 undo: back to fewer, and more again");
        DayBehind y = new DayBehind();
        y.one(LOVER, LEFT);
        y.event(3, 3);
        y.image();
        for (int i = 1; i < 8; i++) {
            y.one(BAKER, RIGHT);
            y.event(i, i);
        }
        for (int i = 1; i < 8; i++) {
            y.set(i, 6, 255);
            y.worth(i, -9);
            y.turn(i, FIREMAN);
            y.cross(i);
        }
        y.hours(1);
        due.is("all of these are MET", y.now(5), 254);
        due.is("undo()", y.undo(), 1);
        due.is("a number that is no more", y.of(1, 0), Due.BEYOND);
        due.is("an EVENT that is no more", y.eventOf(1, 0), Due.BEYOND);
        due.is("KNOWS of EVENTS that are no more", y.set(0, 6, 2), Due.BEYOND);
        due.is("the next number", y.one(TELLER, RIGHT), 1);
        int[] fresh = {TELLER, RIGHT, 50, -1, -1, 0, 0};
        for (int what = 0; what < 7; what++) {
            due.is("it is as new: of(1, " + what + ")", y.of(1, what), fresh[what]);
        }
        due.is("the next EVENT", y.event(9, 9), 1);
        due.is("its HOUR", y.eventOf(1, 0), 9);
        due.is("it is not MET", y.eventOf(1, 2), 0);
    }

    private static void tear() {
        due.part("40 tear: nothing is kept: 1 if something was, else 0");
        DayBehind x = new DayBehind();
        due.is("nothing was", x.tear(), 0);
        x.image();
        x.image();
        due.is("something was", x.tear(), 1);
        due.is("nothing is", x.tear(), 0);
        due.is("undo()", x.undo(), NONE);
        x.image();
        x.undo();
        due.is("undo() leaves it", x.tear(), 1);
        x.one(PERSON, RIGHT);
        x.image();
        x.tear();
        due.is("what there is stays", x.count(0), 1);
        due.is("no finding but that of undo()", x.status(-1), 1);
    }

    private static void count() {
        due.part("41 count: of nothing, and of 1");
        DayBehind x = new DayBehind();
        for (int what = 0; what < 4; what++) {
            due.is("count(" + what + ")", x.count(what), 0);
        }
        x.one(PERSON, RIGHT);
        x.event(0, 1);
        x.feed('x', 1);
        x.set(0, 6, 1);
        for (int what = 0; what < 4; what++) {
            due.is("count(" + what + ")", x.count(what), 1);
        }
    }

    private static void countFull() {
        due.part("41 count: of a full river");
        DayBehind x = Scene.full();
        for (int i = 0; i < 8; i++) {
            x.set(i, 6, 255);
        }
        int[] full = {8, 8, 120, 64};
        for (int what = 0; what < 4; what++) {
            due.is("count(" + what + ")", x.count(what), full[what]);
        }
        x.set(7, 6, 254);
        due.is("each for itself", x.count(3), 63);
    }

    private static void statusCountsItself() {
        due.part("42 status: BEYOND (counted from then on): another one");
        DayBehind x = new DayBehind();
        due.is("status(7)", x.status(7), Due.BEYOND);
        due.is("status(0)", x.status(0), 1);
        due.is("status(-2)", x.status(-2), Due.BEYOND);
        due.is("status(0)", x.status(0), 2);
        due.is("status(-1)", x.status(-1), 2);
        for (int which = 1; which < 7; which++) {
            due.is("status(" + which + ")", x.status(which), 0);
        }
        due.is("to ask is no finding", x.status(-1), 2);
    }

    private static void statusIsNeverTakenBack() {
        due.part("42 status: ever (undo() takes none back)");
        DayBehind x = new DayBehind();
        x.toll(100);
        x.image();
        x.toll(100);
        x.sheet(0, 8, -1);
        x.undo();
        due.is("status(0)", x.status(0), 2);
        due.is("status(6)", x.status(6), 1);
        x.tear();
        x.wipe();
        x.river();
        due.is("status(-1)", x.status(-1), 3);
        x.undo();
        due.is("status(3)", x.status(3), 1);
        due.is("status(-1)", x.status(-1), 4);
    }
}
