import java.util.function.Supplier;

/**
 * Every argument of every call that has bounds: the last values that are taken and the first that are refused, on
 * both sides; and every refused call changes nothing but status(). Each is asked of a river with room, of one with
 * nothing in it, and of one that is full, where that makes a difference.
 */
public final class BoundsTest {
    private static final int BEYOND = Due.BEYOND;
    private static final int FULL = Due.FULL;
    private static final int KIND = Due.KIND;
    private static final int NONE = Due.NONE;
    private static final int STATE = Due.STATE;
    private static final int MISSING = Due.MISSING;
    private static final int SIZE = Due.SIZE;
    private static final int LOW = Scene.LOW;
    private static final int HIGH = Scene.HIGH;
    private static final int LAST_ONE = Scene.LIVELY_PEOPLE - 1;
    private static final int LAST_EVENT = Scene.LIVELY_EVENTS - 1;
    private static final Supplier<DayBehind> LIVELY = Scene::lively;
    private static final Supplier<DayBehind> EMPTY = DayBehind::new;
    private static final Supplier<DayBehind> FULL_RIVER = Scene::full;
    private static final Supplier<DayBehind> LATE = Scene::late;

    private static final Due due = new Due();

    private interface CallWith {
        long on(DayBehind x, int v);
    }

    public static void main(String[] args) {
        toll();
        event();
        eventOf();
        worth();
        one();
        of();
        set();
        setWhat();
        turn();
        as();
        gains();
        cross();
        tells();
        hours();
        now();
        on();
        learns();
        first();
        met();
        broke();
        clocksAndRich();
        bears();
        bankKindNews();
        needed();
        sum();
        feed();
        sheet();
        write();
        copy();
        copyPlaces();
        lays();
        book();
        read();
        undo();
        count();
        status();
        due.part("BoundsTest");
        due.end();
    }

    // ---- how bounds are asked

    private static void bounds(String name, Supplier<DayBehind> make, int least, int most, CallWith call) {
        taken(name, make, call, least, most);
        refused(name, make, BEYOND, call, least - 1, most + 1, LOW, HIGH);
    }

    private static void taken(String name, Supplier<DayBehind> make, CallWith call, int... values) {
        for (int v : values) {
            Scene.taken(due, name + " " + v, make, x -> call.on(x, v));
        }
    }

    private static void refused(String name, Supplier<DayBehind> make, int finding, CallWith call, int... values) {
        for (int v : values) {
            Scene.refused(due, name + " " + v, make, x -> call.on(x, v), finding);
        }
    }

    /** One of the PEOPLE there are: none of a river without any, and never a ninth. */
    private static void people(CallWith call) {
        bounds("one", LIVELY, 0, LAST_ONE, call);
        refused("of nobody, one", EMPTY, BEYOND, call, -1, 0, 1, 7, 8);
        taken("of eight, one", FULL_RIVER, call, 0, 7);
        refused("of eight, one", FULL_RIVER, BEYOND, call, -1, 8);
    }

    private static void events(CallWith call) {
        bounds("event", LIVELY, 0, LAST_EVENT, call);
        refused("of none, event", EMPTY, BEYOND, call, -1, 0, 1, 7, 8);
        taken("of eight, event", FULL_RIVER, call, 0, 7);
        refused("of eight, event", FULL_RIVER, BEYOND, call, -1, 8);
    }

    // ---- the river

    private static void toll() {
        due.part("2 toll: BEYOND");
        bounds("toll", LIVELY, 0, 99, DayBehind::toll);
    }

    private static void event() {
        due.part("3 event: BEYOND: hour, worth");
        bounds("hour", LIVELY, 0, 9999, (x, v) -> x.event(v, 0));
        bounds("worth", LIVELY, -99, 99, (x, v) -> x.event(0, v));
        due.part("3 event: FULL, asked behind BEYOND");
        refused("of eight, hour", FULL_RIVER, FULL, (x, v) -> x.event(v, 0), 0, 9999);
        refused("of eight, worth", FULL_RIVER, FULL, (x, v) -> x.event(0, v), -99, 99);
        refused("of eight, hour", FULL_RIVER, BEYOND, (x, v) -> x.event(v, 0), -1, 10000);
        refused("of eight, worth", FULL_RIVER, BEYOND, (x, v) -> x.event(0, v), -100, 100);
    }

    private static void eventOf() {
        due.part("4 eventOf: BEYOND");
        events((x, v) -> x.eventOf(v, 0));
        bounds("what", LIVELY, 0, 5, (x, v) -> x.eventOf(LAST_EVENT, v));
    }

    private static void worth() {
        due.part("5 worth: BEYOND");
        events((x, v) -> x.worth(v, 0));
        bounds("v", LIVELY, -99, 99, (x, v) -> x.worth(LAST_EVENT, v));
    }

    // ---- people

    private static void one() {
        due.part("6 one: BEYOND: kind, bank");
        bounds("kind", LIVELY, 0, 5, (x, v) -> x.one(v, 0));
        bounds("bank", LIVELY, 0, 1, (x, v) -> x.one(0, v));
        due.part("6 one: FULL, asked behind BEYOND");
        refused("of eight, kind", FULL_RIVER, FULL, (x, v) -> x.one(v, 0), 0, 5);
        refused("of eight, bank", FULL_RIVER, FULL, (x, v) -> x.one(0, v), 0, 1);
        refused("of eight, kind", FULL_RIVER, BEYOND, (x, v) -> x.one(v, 0), -1, 6);
        refused("of eight, bank", FULL_RIVER, BEYOND, (x, v) -> x.one(0, v), -1, 2);
    }

    private static void of() {
        due.part("7 of: BEYOND");
        people((x, v) -> x.of(v, 0));
        bounds("what", LIVELY, 0, 6, (x, v) -> x.of(LAST_ONE, v));
    }

    private static void set() {
        due.part("8 set: BEYOND");
        people((x, v) -> x.set(v, 2, 1));
        bounds("BANK", LIVELY, 0, 1, (x, v) -> x.set(LAST_ONE, 1, v));
        bounds("PURSE", LIVELY, 0, 9999, (x, v) -> x.set(LAST_ONE, 2, v));
        bounds("GOES", LIVELY, -1, 23, (x, v) -> x.set(LAST_ONE, 3, v));
        bounds("COMES", LIVELY, -1, 23, (x, v) -> x.set(LAST_ONE, 4, v));
        due.part("8 set: KNOWS (6; just EVENTS that there are)");
        bounds("KNOWS", LIVELY, 0, 15, (x, v) -> x.set(LAST_ONE, 6, v));
        refused("KNOWS", LIVELY, BEYOND, (x, v) -> x.set(LAST_ONE, 6, v), 17, 31, 32, 128, 256, 1 << 30);
        bounds("of eight, KNOWS", FULL_RIVER, 0, 255, (x, v) -> x.set(7, 6, v));
        Supplier<DayBehind> noEvents = () -> {
            DayBehind x = new DayBehind();
            x.one(0, 0);
            return x;
        };
        bounds("of none, KNOWS", noEvents, 0, 0, (x, v) -> x.set(0, 6, v));
    }

    private static void setWhat() {
        due.part("8 set: BANK, PURSE, GOES, COMES, KNOWS alone");
        taken("what", LIVELY, (x, v) -> x.set(0, v, 0), 1, 2, 3, 4, 6);
        taken("what", LIVELY, (x, v) -> x.set(0, v, 1), 1, 2, 3, 4, 6);
        refused("what", LIVELY, BEYOND, (x, v) -> x.set(0, v, 0), -1, 0, 5, 7, LOW, HIGH);
        refused("what", LIVELY, BEYOND, (x, v) -> x.set(0, v, 1), -1, 0, 5, 7, LOW, HIGH);
    }

    private static void turn() {
        due.part("9 turn: BEYOND");
        people((x, v) -> x.turn(v, 1));
        bounds("kind", LIVELY, 0, 5, (x, v) -> x.turn(3, v));
    }

    private static void as() {
        due.part("10 as: BEYOND: no such one, kind");
        people((x, v) -> x.as(v, 0));
        bounds("kind", LIVELY, 0, 5, (x, v) -> x.as(LAST_ONE, v));
        refused("kind of a PERSON, who is none under it", LIVELY, BEYOND, (x, v) -> x.as(0, v), -1, 6);
        due.part("10 as: KIND: it isn't of that kind, nor of one under it");
        int[] above = {1, 3, 5, 9, 25, 37};
        for (int one = 0; one < 6; one++) {
            for (int kind = 0; kind < 6; kind++) {
                int i = one;
                if ((above[one] >> kind & 1) == 0) {
                    refused("one " + i + " as", LIVELY, KIND, (x, v) -> x.as(i, v), kind);
                } else {
                    due.is("one " + i + " as " + kind, Scene.lively().as(i, kind), Scene.lively().of(i, 2));
                }
            }
        }
    }

    private static void gains() {
        due.part("11 gains: BEYOND");
        people((x, v) -> x.gains(v, 5, 0));
        bounds("worth", LIVELY, -99, 99, (x, v) -> x.gains(1, v, 0));
        bounds("worth, known", LIVELY, -99, 99, (x, v) -> x.gains(1, v, 1));
        bounds("known", LIVELY, 0, 1, (x, v) -> x.gains(1, 5, v));
    }

    private static void cross() {
        due.part("12 cross: BEYOND");
        people((x, v) -> x.cross(v));
        due.part("12 cross: STATE: its PURSE is less than TOLL");
        refused("one with 5 of 6", LIVELY, STATE, (x, v) -> x.cross(v), 2);
        Scene.refused(due, "with 0 of 1", () -> withPurseAndToll(0, 1), x -> x.cross(0), STATE);
        Scene.refused(due, "with 98 of 99", () -> withPurseAndToll(98, 99), x -> x.cross(0), STATE);
        due.is("with 1 of 1", withPurseAndToll(1, 1).cross(0), 1);
        due.is("with 99 of 99", withPurseAndToll(99, 99).cross(0), 1);
        due.is("with 0 of 0", withPurseAndToll(0, 0).cross(0), 1);
    }

    private static DayBehind withPurseAndToll(int purse, int toll) {
        DayBehind x = new DayBehind();
        x.one(0, 0);
        x.set(0, 2, purse);
        x.toll(toll);
        return x;
    }

    private static void tells() {
        due.part("13 tells: BEYOND: also one and the same");
        people((x, v) -> x.tells(v, v == 1 ? 3 : 1));
        people((x, v) -> x.tells(v == 1 ? 3 : 1, v));
        refused("one to itself", LIVELY, BEYOND, (x, v) -> x.tells(v, v), 0, 1, 2, 3, 4, 5, 6, -1);
        due.part("13 tells: STATE: they aren't on one BANK");
        refused("from the RIGHT to", LIVELY, STATE, (x, v) -> x.tells(1, v), 2, 4, 5);
        refused("from the LEFT to", LIVELY, STATE, (x, v) -> x.tells(4, v), 1, 3);
        taken("from the LEFT to", LIVELY, (x, v) -> x.tells(4, v), 2, 5);
    }

    // ---- hours

    private static void hours() {
        due.part("14 hours: BEYOND");
        bounds("n", LIVELY, 1, 72, (x, v) -> x.hours(v));
        due.part("14 hours: STATE, asked behind BEYOND");
        refused("at 9999, n", LATE, STATE, (x, v) -> x.hours(v), 1, 2, 72);
        refused("at 9999, n", LATE, BEYOND, (x, v) -> x.hours(v), 0, -1, 73, LOW, HIGH);
    }

    private static void now() {
        due.part("15 now: BEYOND");
        bounds("what", LIVELY, 0, 5, DayBehind::now);
        bounds("of nothing, what", EMPTY, 0, 5, DayBehind::now);
    }

    private static void on() {
        due.part("16 on: BEYOND");
        people((x, v) -> x.on(v, 1, 0));
        bounds("n", LIVELY, 0, 72, (x, v) -> x.on(1, v, 0));
        bounds("what", LIVELY, 0, 3, (x, v) -> x.on(1, 1, v));
    }

    private static void learns() {
        due.part("17 learns: BEYOND");
        people((x, v) -> x.learns(v, 0));
        events((x, v) -> x.learns(0, v));
        due.part("17 learns: NONE");
        // The second is MET: on the LEFT it never comes, and who knows it stays there and tells nobody on the RIGHT.
        refused("of the third EVENT, at 90, one", LIVELY, NONE, (x, v) -> x.learns(v, 2), 0, 1, 2, 3, 4, 5);
    }

    private static void first() {
        due.part("18 first: BEYOND");
        events((x, v) -> x.first(v));
        due.part("18 first: NONE");
        refused("EVENT", LIVELY, NONE, (x, v) -> x.first(v), 2);
        Scene.refused(due, "with nobody", () -> {
            DayBehind x = new DayBehind();
            x.event(0, 1);
            return x;
        }, x -> x.first(0), NONE);
    }

    private static void met() {
        due.part("19 met: BEYOND");
        bounds("n", LIVELY, 0, 72, DayBehind::met);
        bounds("of nothing, n", EMPTY, 0, 72, DayBehind::met);
    }

    private static void broke() {
        due.part("20 broke: BEYOND");
        people((x, v) -> x.broke(v));
        due.part("20 broke: NONE");
        refused("one", LIVELY, NONE, (x, v) -> x.broke(v), 5);
        Scene.refused(due, "at TOLL 0", () -> withPurseAndToll(0, 0), x -> x.broke(0), NONE);
    }

    // ---- clocks, tolls

    private static void clocksAndRich() {
        due.part("21 clocks: BEYOND");
        people((x, v) -> x.clocks(v, 3));
        bounds("n", LIVELY, 0, 48, (x, v) -> x.clocks(1, v));
        due.part("22 rich: BEYOND");
        people((x, v) -> x.rich(v, 3));
        bounds("n", LIVELY, 0, 48, (x, v) -> x.rich(1, v));
    }

    private static void bears() {
        due.part("23 bears: BEYOND");
        bounds("v", LIVELY, 0, 99999, (x, v) -> x.bears(v, 1));
        bounds("n", LIVELY, 0, 48, (x, v) -> x.bears(1, v));
        bounds("of nobody, v", EMPTY, 0, 99999, (x, v) -> x.bears(v, 0));
        due.part("23 bears: NONE");
        refused("v", LIVELY, NONE, (x, v) -> x.bears(v, 0), 99999, Scene.lively().now(2) + 1);
        taken("v", LIVELY, (x, v) -> x.bears(v, 0), Scene.lively().now(2));
        refused("of nobody, v", EMPTY, NONE, (x, v) -> x.bears(v, 0), 1, 99999);
    }

    private static void bankKindNews() {
        due.part("24 bank: BEYOND");
        people((x, v) -> x.bank(v, 3));
        bounds("n", LIVELY, 0, 72, (x, v) -> x.bank(1, v));
        due.part("25 kind: BEYOND");
        people((x, v) -> x.kind(v, 3));
        bounds("n", LIVELY, 0, 72, (x, v) -> x.kind(1, v));
        due.part("26 news: BEYOND");
        people((x, v) -> x.news(v, 3));
        bounds("n", LIVELY, 0, 72, (x, v) -> x.news(1, v));
        due.part("26 news: NONE");
        refused("n", LIVELY, NONE, (x, v) -> x.news(1, v), 0, 1);
    }

    private static void needed() {
        due.part("27 needed: BEYOND");
        bounds("n", LIVELY, 0, 72, DayBehind::needed);
        bounds("of nobody, n", EMPTY, 0, 72, DayBehind::needed);
        due.part("27 needed: NONE");
        refused("n", LIVELY, NONE, (x, v) -> x.needed(v), 0, 1, 72);
        refused("of nobody, n", EMPTY, NONE, (x, v) -> x.needed(v), 0, 72);
    }

    private static void sum() {
        due.part("28 sum: BEYOND");
        events((x, v) -> x.sum(v, 3));
        bounds("n", LIVELY, 0, 72, (x, v) -> x.sum(LAST_EVENT, v));
    }

    // ---- the text

    private static void feed() {
        due.part("29 feed: BEYOND: n");
        bounds("n", LIVELY, 1, 4, (x, v) -> x.feed(0x61626364, v));
        bounds("n of an empty tape", EMPTY, 1, 4, (x, v) -> x.feed(0x61626364, v));
        due.part("29 feed: FULL, asked behind BEYOND");
        refused("full, n", FULL_RIVER, FULL, (x, v) -> x.feed(0x61626364, v), 1, 2, 3, 4);
        refused("full, n", FULL_RIVER, BEYOND, (x, v) -> x.feed(0x61626364, v), -1, 0, 5, LOW, HIGH);
        for (int room = 1; room <= 3; room++) {
            int length = 120 - room;
            Supplier<DayBehind> nearlyFull = () -> {
                DayBehind x = new DayBehind();
                Due.feed(x, "toll 42" + " ".repeat(length - 7));
                return x;
            };
            due.is("room for " + room, nearlyFull.get().feed(0, room), 120);
            refused("room for " + room + ", n", nearlyFull, FULL, (x, v) -> x.feed(0x61626364, v), room + 1);
        }
    }

    // ---- sheets

    private static void sheet() {
        due.part("32 sheet: BEYOND: no such sheet, other bits");
        bounds("s", LIVELY, 0, 3, (x, v) -> x.sheet(v, 8, 1));
        bounds("s with bits 0", LIVELY, 0, 3, (x, v) -> x.sheet(v, 0, 1));
        taken("bits", LIVELY, (x, v) -> x.sheet(0, v, 1), 0, 8, 16, 64);
        int[] other = {-64, -16, -8, -1, 1, 7, 9, 15, 17, 24, 32, 63, 65, 128, 256 + 8, LOW, HIGH};
        refused("bits", LIVELY, BEYOND, (x, v) -> x.sheet(0, v, 1), other);
        for (int bits : new int[] {0, 8, 16, 64}) {
            due.part("32 sheet: n below 0 SIZE, above 40 BEYOND, bits " + bits);
            taken("n", LIVELY, (x, v) -> x.sheet(2, bits, v), 0, 1, 39, 40);
            refused("n", LIVELY, SIZE, (x, v) -> x.sheet(2, bits, v), -1, -2, LOW);
            refused("n", LIVELY, BEYOND, (x, v) -> x.sheet(2, bits, v), 41, 42, HIGH);
        }
        due.part("32 sheet: SIZE is asked behind the first BEYOND");
        refused("no such sheet, n", LIVELY, BEYOND, (x, v) -> x.sheet(4, 8, v), -1, 41);
        refused("no such sheet, n", LIVELY, BEYOND, (x, v) -> x.sheet(-1, 0, v), -1, 41);
        refused("other bits, n", LIVELY, BEYOND, (x, v) -> x.sheet(0, 32, v), -1, 41);
    }

    private static void write() {
        due.part("33 write: BEYOND: no such sheet");
        refused("s", LIVELY, BEYOND, (x, v) -> x.write(v, 0, 1L), -1, 4, LOW, HIGH);
        due.part("33 write: MISSING, asked ahead of the number");
        refused("i", LIVELY, MISSING, (x, v) -> x.write(3, v, 1L), 0, -1, 40, LOW, HIGH);
        due.part("33 write: BEYOND: no such number");
        for (int s = 0; s < 3; s++) {
            int sheet = s;
            bounds("sheet " + s + ", i", LIVELY, 0, Scene.LIVELY_NUMBERS[s] - 1, (x, v) -> x.write(sheet, v, 1L));
        }
        bounds("of forty, i", FULL_RIVER, 0, 39, (x, v) -> x.write(0, v, 1L));
        Supplier<DayBehind> noNumbers = () -> {
            DayBehind x = new DayBehind();
            x.sheet(0, 64, 0);
            return x;
        };
        refused("of none, i", noNumbers, BEYOND, (x, v) -> x.write(0, v, 1L), -1, 0, 1);
    }

    private static DayBehind withSheets() {
        DayBehind x = Scene.lively();
        x.sheet(0, 16, 6);
        for (int i = 0; i < 6; i++) {
            x.write(0, i, 10L + i);
        }
        return x;
    }

    private static void copy() {
        due.part("34 copy: BEYOND: no such sheet (either)");
        refused("s", BoundsTest::withSheets, BEYOND, (x, v) -> x.copy(v, 0, 1, 0, 1), -1, 4, LOW, HIGH);
        refused("t", BoundsTest::withSheets, BEYOND, (x, v) -> x.copy(1, 0, v, 0, 1), -1, 4, LOW, HIGH);
        refused("the other one MISSING, s", BoundsTest::withSheets, BEYOND, (x, v) -> x.copy(v, 0, 3, 0, 1), -1, 4);
        refused("the other one MISSING, t", BoundsTest::withSheets, BEYOND, (x, v) -> x.copy(3, 0, v, 0, 1), -1, 4);
        due.part("34 copy: MISSING: one is, asked ahead of KIND and the places");
        refused("t", BoundsTest::withSheets, MISSING, (x, v) -> x.copy(3, -1, v, 0, 1), 0, 1, 2, 3);
        refused("s", BoundsTest::withSheets, MISSING, (x, v) -> x.copy(v, 0, 3, 0, -1), 0, 1, 2, 3);
        due.part("34 copy: KIND: they are not of as many bits, asked ahead of the places");
        refused("16 to 64, n", BoundsTest::withSheets, KIND, (x, v) -> x.copy(1, 0, 2, 0, v), 0, 1, -1, 41);
        refused("64 to 16, n", BoundsTest::withSheets, KIND, (x, v) -> x.copy(2, 0, 1, 0, v), 0, 1, -1, 41);
        refused("8 to 16, n", LIVELY, KIND, (x, v) -> x.copy(0, 0, 1, 0, v), 0, 1, -1, 41);
        refused("64 to 8, n", LIVELY, KIND, (x, v) -> x.copy(2, 0, 0, 0, v), 0, 1, -1, 41);
    }

    private static void copyPlaces() {
        due.part("34 copy: BEYOND: one has not so many, or from, to or n is below 0");
        Supplier<DayBehind> m = BoundsTest::withSheets;
        bounds("6 to 4, n", m, 0, 4, (x, v) -> x.copy(0, 0, 1, 0, v));
        bounds("4 to 6, n", m, 0, 4, (x, v) -> x.copy(1, 0, 0, 0, v));
        bounds("3 of 6 to 4, from", m, 0, 3, (x, v) -> x.copy(0, v, 1, 0, 3));
        bounds("3 of 6 to 4, to", m, 0, 1, (x, v) -> x.copy(0, 0, 1, v, 3));
        bounds("3 of 4 to 6, from", m, 0, 1, (x, v) -> x.copy(1, v, 0, 0, 3));
        bounds("3 of 4 to 6, to", m, 0, 3, (x, v) -> x.copy(1, 0, 0, v, 3));
        bounds("none of 6 to 4, from", m, 0, 6, (x, v) -> x.copy(0, v, 1, 0, 0));
        bounds("none of 6 to 4, to", m, 0, 4, (x, v) -> x.copy(0, 0, 1, v, 0));
        bounds("from the last, n", m, 0, 1, (x, v) -> x.copy(0, 5, 1, 0, v));
        bounds("behind the last, n", m, 0, 0, (x, v) -> x.copy(0, 6, 1, 0, v));
        bounds("to behind the last, n", m, 0, 0, (x, v) -> x.copy(0, 0, 1, 4, v));
        refused("a sum that wraps around, n", m, BEYOND, (x, v) -> x.copy(0, 1, 1, 0, v), HIGH, HIGH - 1);
        refused("a sum that wraps around, from", m, BEYOND, (x, v) -> x.copy(0, v, 1, 0, 3), HIGH, HIGH - 1, HIGH - 2);
        refused("a sum that wraps around, to", m, BEYOND, (x, v) -> x.copy(0, 0, 1, v, 3), HIGH, HIGH - 1, HIGH - 2);
        refused("a sum that wraps around, all", m, BEYOND, (x, v) -> x.copy(0, v, 1, v, v), LOW, HIGH, -1, 1 << 30);
    }

    private static void lays() {
        due.part("35 lays: BEYOND: no such sheet");
        bounds("s", LIVELY, 0, 3, DayBehind::lays);
        due.part("35 lays: MISSING");
        refused("s", LIVELY, MISSING, (x, v) -> x.lays(v), 3);
        refused("at first, s", EMPTY, MISSING, (x, v) -> x.lays(v), 0, 1, 2, 3);
    }

    private static void book() {
        due.part("36 book: BEYOND: no such sheet, MISSING, BEYOND: one");
        bounds("s", LIVELY, 0, 3, (x, v) -> x.book(v, 0));
        refused("MISSING, one", LIVELY, MISSING, (x, v) -> x.book(3, v), 0, -1, 6, LOW, HIGH);
        bounds("one", LIVELY, 0, LAST_ONE, (x, v) -> x.book(0, v));
        bounds("of eight, one", FULL_RIVER, 0, 7, (x, v) -> x.book(0, v));
        refused("of nobody, one", BoundsTest::withSheetAlone, BEYOND, (x, v) -> x.book(0, v), -1, 0);
        refused("no such sheet, nor one", LIVELY, BEYOND, (x, v) -> x.book(4, v), -1, 6);
    }

    private static void read() {
        due.part("37 read: BEYOND: no such sheet, MISSING, BEYOND: one");
        bounds("s", LIVELY, 0, 3, (x, v) -> x.read(v, 0));
        refused("MISSING, one", LIVELY, MISSING, (x, v) -> x.read(3, v), 0, -1, 6, LOW, HIGH);
        bounds("one", LIVELY, 0, LAST_ONE, (x, v) -> x.read(0, v));
        bounds("of eight, one", FULL_RIVER, 0, 7, (x, v) -> x.read(0, v));
        refused("of nobody, one", BoundsTest::withSheetAlone, BEYOND, (x, v) -> x.read(0, v), -1, 0);
        refused("no such sheet, nor one", LIVELY, BEYOND, (x, v) -> x.read(4, v), -1, 6);
    }

    private static DayBehind withSheetAlone() {
        DayBehind x = new DayBehind();
        x.sheet(0, 64, 2);
        return x;
    }

    // ---- images

    private static void undo() {
        due.part("39 undo: NONE: nothing is kept");
        Scene.refused(due, "a new object", EMPTY, DayBehind::undo, NONE);
        Scene.refused(due, "torn", () -> {
            DayBehind x = Scene.lively();
            x.tear();
            return x;
        }, DayBehind::undo, NONE);
    }

    private static void count() {
        due.part("41 count: BEYOND: another what");
        bounds("what", LIVELY, 0, 3, DayBehind::count);
        bounds("of nothing, what", EMPTY, 0, 3, DayBehind::count);
    }

    private static void status() {
        due.part("42 status: BEYOND (counted from then on): another one");
        bounds("which", LIVELY, -1, 6, DayBehind::status);
        bounds("of nothing, which", EMPTY, -1, 6, DayBehind::status);
    }
}
