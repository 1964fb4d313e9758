/** Every promise of the document, with answers worked out by hand. */
public final class PromiseTest {
    private static final int BEYOND = Due.BEYOND;
    private static final int FULL = Due.FULL;
    private static final int KIND = Due.KIND;
    private static final int NONE = Due.NONE;
    private static final int STATE = Due.STATE;
    private static final int MISSING = Due.MISSING;
    private static final int SIZE = Due.SIZE;
    private static final int LOW = Integer.MIN_VALUE;
    private static final int HIGH = Integer.MAX_VALUE;
    private static final int PERSON = 0;
    private static final int BAKER = 1;
    private static final int DEBTOR = 2;
    private static final int TELLER = 3;
    private static final int FIREMAN = 4;
    private static final int LOVER = 5;

    private static final Due due = new Due();

    public static void main(String[] args) {
        newObject();
        toll();
        event();
        eventOf();
        worth();
        one();
        of();
        set();
        turn();
        as();
        gains();
        cross();
        tells();
        hours();
        hourCrossing();
        hourTelling();
        hourMeeting();
        hourEvents();
        lastHour();
        now();
        on();
        learns();
        first();
        met();
        broke();
        clocksAndRich();
        bears();
        bank();
        kind();
        news();
        needed();
        sum();
        feedAndWipe();
        river();
        riverFaults();
        riverNinth();
        riverOfAWholeTape();
        sheet();
        write();
        copy();
        lays();
        book();
        read();
        imageUndoTear();
        count();
        status();
        due.part("PromiseTest");
        due.end();
    }

    private static void newObject() {
        due.part("1 a new object");
        DayBehind x = new DayBehind();
        for (int what = 0; what <= 3; what++) {
            due.is("count(" + what + ")", x.count(what), 0);
        }
        for (int what = 0; what <= 5; what++) {
            due.is("now(" + what + ")", x.now(what), 0);
        }
        due.is("tear()", x.tear(), 0);
        due.is("status(-1)", x.status(-1), 0);
        due.is("toll(5)", x.toll(5), 5);
        due.is("undo()", x.undo(), NONE);
        due.is("of(0, 0)", x.of(0, 0), BEYOND);
        due.is("eventOf(0, 0)", x.eventOf(0, 0), BEYOND);
        for (int s = 0; s <= 3; s++) {
            due.is("write(" + s + ", 0, 0)", x.write(s, 0, 0L), MISSING);
        }
    }

    private static void toll() {
        due.part("2 toll");
        DayBehind x = new DayBehind();
        due.is("toll(0)", x.toll(0), 5);
        due.is("toll(99)", x.toll(99), 0);
        due.is("toll(100)", x.toll(100), BEYOND);
        due.is("toll(-1)", x.toll(-1), BEYOND);
        due.is("toll(LOW)", x.toll(LOW), BEYOND);
        due.is("toll(HIGH)", x.toll(HIGH), BEYOND);
        due.is("toll(7)", x.toll(7), 99);
        due.is("status(0)", x.status(0), 4);
    }

    private static void event() {
        due.part("3 event");
        DayBehind x = new DayBehind();
        due.is("event(0, -99)", x.event(0, -99), 0);
        due.is("event(9999, 99)", x.event(9999, 99), 1);
        due.is("event(-1, 0)", x.event(-1, 0), BEYOND);
        due.is("event(10000, 0)", x.event(10000, 0), BEYOND);
        due.is("event(0, -100)", x.event(0, -100), BEYOND);
        due.is("event(0, 100)", x.event(0, 100), BEYOND);
        due.is("count(1)", x.count(1), 2);
        for (int e = 2; e < 8; e++) {
            due.is("event(" + e + ", 1)", x.event(e, 1), e);
        }
        due.is("event(0, 0), full", x.event(0, 0), FULL);
        due.is("event(0, 100), full", x.event(0, 100), BEYOND);
        due.is("event(-1, 0), full", x.event(-1, 0), BEYOND);
        due.is("count(1)", x.count(1), 8);
    }

    private static void eventOf() {
        due.part("4 eventOf");
        DayBehind x = new DayBehind();
        x.event(3, -7);
        due.is("eventOf(0, 0)", x.eventOf(0, 0), 3);
        due.is("eventOf(0, 1)", x.eventOf(0, 1), -7);
        due.is("eventOf(0, 2)", x.eventOf(0, 2), 0);
        due.is("eventOf(0, 3)", x.eventOf(0, 3), 0);
        due.is("eventOf(0, 4)", x.eventOf(0, 4), 3);
        due.is("eventOf(0, 5)", x.eventOf(0, 5), 27);
        due.is("eventOf(0, 6)", x.eventOf(0, 6), BEYOND);
        due.is("eventOf(0, -1)", x.eventOf(0, -1), BEYOND);
        due.is("eventOf(1, 0)", x.eventOf(1, 0), BEYOND);
        due.is("eventOf(-1, 0)", x.eventOf(-1, 0), BEYOND);
        x.hours(3);
        due.is("eventOf(0, 4) in its hour", x.eventOf(0, 4), 0);
        x.one(PERSON, 0);
        x.one(PERSON, 1);
        x.one(PERSON, 0);
        x.hours(1);
        due.is("eventOf(0, 3)", x.eventOf(0, 3), 5);
        due.is("eventOf(0, 4) gone", x.eventOf(0, 4), -1);
        due.is("eventOf(0, 5)", x.eventOf(0, 5), 23);
        x.hours(5);
        due.is("eventOf(0, 4) long gone", x.eventOf(0, 4), -1);
        x.hours(18);
        due.is("eventOf(0, 5) in its hour", x.eventOf(0, 5), 0);
        x.hours(1);
        due.is("eventOf(0, 3)", x.eventOf(0, 3), 7);
        due.is("eventOf(0, 5) gone", x.eventOf(0, 5), -1);
        x.hours(1);
        due.is("eventOf(0, 5) long gone", x.eventOf(0, 5), -1);
        x.event(41, -1);
        x.one(FIREMAN, 1);
        x.set(3, 6, 2);
        x.hours(1);
        due.is("eventOf(1, 2) met", x.eventOf(1, 2), 1);
        due.is("eventOf(1, 4) met", x.eventOf(1, 4), 11);
        due.is("eventOf(1, 5) met", x.eventOf(1, 5), -1);
    }

    private static void worth() {
        due.part("5 worth");
        DayBehind x = new DayBehind();
        x.event(0, 10);
        due.is("worth(0, -99)", x.worth(0, -99), 10);
        due.is("worth(0, 99)", x.worth(0, 99), -99);
        due.is("worth(0, 100)", x.worth(0, 100), BEYOND);
        due.is("worth(0, -100)", x.worth(0, -100), BEYOND);
        due.is("worth(1, 0)", x.worth(1, 0), BEYOND);
        due.is("worth(-1, 0)", x.worth(-1, 0), BEYOND);
        due.is("eventOf(0, 1)", x.eventOf(0, 1), 99);
    }

    private static void one() {
        due.part("6 one");
        DayBehind x = new DayBehind();
        due.is("one(-1, 0)", x.one(-1, 0), BEYOND);
        due.is("one(6, 0)", x.one(6, 0), BEYOND);
        due.is("one(0, 2)", x.one(0, 2), BEYOND);
        due.is("one(0, -1)", x.one(0, -1), BEYOND);
        for (int i = 0; i < 8; i++) {
            due.is("one " + i, x.one(i % 6, i % 2), i);
        }
        due.is("one(0, 0), full", x.one(0, 0), FULL);
        due.is("one(6, 0), full", x.one(6, 0), BEYOND);
        due.is("one(0, 2), full", x.one(0, 2), BEYOND);
        due.is("count(0)", x.count(0), 8);
        for (int i = 0; i < 8; i++) {
            due.is("of(" + i + ", 0)", x.of(i, 0), i % 6);
            due.is("of(" + i + ", 1)", x.of(i, 1), i % 2);
        }
    }

    private static void of() {
        due.part("7 of");
        DayBehind x = new DayBehind();
        x.one(LOVER, 1);
        int[] fresh = {5, 1, 50, -1, -1, 0, 0};
        for (int what = 0; what <= 6; what++) {
            due.is("of(0, " + what + ")", x.of(0, what), fresh[what]);
        }
        due.is("of(0, 7)", x.of(0, 7), BEYOND);
        due.is("of(0, -1)", x.of(0, -1), BEYOND);
        due.is("of(1, 0)", x.of(1, 0), BEYOND);
        due.is("of(-1, 0)", x.of(-1, 0), BEYOND);
    }

    private static void set() {
        due.part("8 set");
        DayBehind x = new DayBehind();
        x.one(PERSON, 0);
        setWithin(x, 1, 0, 0, 1);
        setWithin(x, 2, 50, 0, 9999);
        setWithin(x, 3, -1, -1, 23);
        setWithin(x, 4, -1, -1, 23);
        setWithin(x, 6, 0, 0, 0);
        x.event(1, 1);
        x.event(1, 1);
        x.event(1, 1);
        setWithin(x, 6, 0, 0, 7);
        due.is("set(0, 0, 1)", x.set(0, 0, 1), BEYOND);
        due.is("set(0, 5, 1)", x.set(0, 5, 1), BEYOND);
        due.is("set(0, 7, 1)", x.set(0, 7, 1), BEYOND);
        due.is("set(0, -1, 1)", x.set(0, -1, 1), BEYOND);
        due.is("set(1, 2, 1)", x.set(1, 2, 1), BEYOND);
        due.is("set(-1, 2, 1)", x.set(-1, 2, 1), BEYOND);
    }

    private static void setWithin(DayBehind x, int what, int was, int least, int most) {
        String call = "set(0, " + what + ", ";
        due.is(call + least + ")", x.set(0, what, least), was);
        due.is(call + most + ")", x.set(0, what, most), least);
        due.is(call + (least - 1) + ")", x.set(0, what, least - 1), BEYOND);
        due.is(call + (most + 1) + ")", x.set(0, what, most + 1), BEYOND);
        due.is(call + "LOW)", x.set(0, what, LOW), BEYOND);
        due.is(call + "HIGH)", x.set(0, what, HIGH), BEYOND);
        due.is("of(0, " + what + ")", x.of(0, what), most);
    }

    private static void turn() {
        due.part("9 turn");
        DayBehind x = new DayBehind();
        x.one(BAKER, 1);
        x.set(0, 2, 70);
        x.set(0, 3, 4);
        due.is("turn(0, 5)", x.turn(0, LOVER), BAKER);
        due.is("turn(0, 0)", x.turn(0, PERSON), LOVER);
        due.is("turn(0, 0) again", x.turn(0, PERSON), PERSON);
        due.is("turn(0, 6)", x.turn(0, 6), BEYOND);
        due.is("turn(0, -1)", x.turn(0, -1), BEYOND);
        due.is("turn(1, 0)", x.turn(1, 0), BEYOND);
        due.is("turn(-1, 0)", x.turn(-1, 0), BEYOND);
        due.is("of(0, 0)", x.of(0, 0), PERSON);
        due.is("of(0, 2)", x.of(0, 2), 70);
        due.is("of(0, 3)", x.of(0, 3), 4);
    }

    private static void as() {
        due.part("10 as");
        DayBehind x = new DayBehind();
        int[] under = {1, 3, 5, 9, 25, 37};
        for (int kind = 0; kind < 6; kind++) {
            x.one(kind, 0);
            x.set(kind, 2, 100 + kind);
        }
        for (int i = 0; i < 6; i++) {
            for (int kind = 0; kind < 6; kind++) {
                boolean isOf = (under[i] >> kind & 1) == 1;
                due.is("as(" + i + ", " + kind + ")", x.as(i, kind), isOf ? 100 + i : KIND);
            }
        }
        due.is("as(6, 0)", x.as(6, 0), BEYOND);
        due.is("as(-1, 0)", x.as(-1, 0), BEYOND);
        due.is("as(0, 6)", x.as(0, 6), BEYOND);
        due.is("as(0, -1)", x.as(0, -1), BEYOND);
    }

    private static void gains() {
        due.part("11 gains");
        DayBehind x = new DayBehind();
        for (int kind = 0; kind < 6; kind++) {
            x.one(kind, 0);
        }
        int[] worths = {-99, -1, 0, 1, 99};
        int[][] fresh = {{-99, -1, 0, 1, 99}, {-148, -1, 0, 1, 148}, {-49, 0, 0, 0, 49},
            {-99, -1, 0, 1, 99}, {-99, -1, 0, 1, 99}, {-46, 3, 3, 3, 52}};
        int[][] known = {{0, 0, 0, 2, 198}, {0, 0, 0, 2, 198}, {-1, -1, -1, 1, 197},
            {0, 0, 0, 2, 198}, {0, 0, 0, 2, 198}, {9, 9, 9, 11, 207}};
        for (int i = 0; i < 6; i++) {
            for (int w = 0; w < 5; w++) {
                due.is("gains(" + i + ", " + worths[w] + ", 0)", x.gains(i, worths[w], 0), fresh[i][w]);
                due.is("gains(" + i + ", " + worths[w] + ", 1)", x.gains(i, worths[w], 1), known[i][w]);
            }
        }
        due.is("gains(0, 100, 0)", x.gains(0, 100, 0), BEYOND);
        due.is("gains(0, -100, 0)", x.gains(0, -100, 0), BEYOND);
        due.is("gains(0, 0, 2)", x.gains(0, 0, 2), BEYOND);
        due.is("gains(0, 0, -1)", x.gains(0, 0, -1), BEYOND);
        due.is("gains(6, 0, 0)", x.gains(6, 0, 0), BEYOND);
        due.is("gains(-1, 0, 0)", x.gains(-1, 0, 0), BEYOND);
        due.is("of(0, 2)", x.of(0, 2), 50);
    }

    private static void cross() {
        due.part("12 cross");
        DayBehind x = new DayBehind();
        x.one(PERSON, 0);
        x.set(0, 2, 11);
        due.is("cross(0)", x.cross(0), 1);
        due.is("of(0, 2)", x.of(0, 2), 6);
        due.is("of(0, 5)", x.of(0, 5), 1);
        due.is("cross(0)", x.cross(0), 0);
        due.is("of(0, 5)", x.of(0, 5), 2);
        due.is("cross(0) with 1", x.cross(0), STATE);
        due.is("of(0, 1)", x.of(0, 1), 0);
        due.is("of(0, 2)", x.of(0, 2), 1);
        x.toll(1);
        due.is("cross(0) with just the toll", x.cross(0), 1);
        due.is("of(0, 2)", x.of(0, 2), 0);
        due.is("cross(1)", x.cross(1), BEYOND);
        due.is("cross(-1)", x.cross(-1), BEYOND);
        due.is("now(0)", x.now(0), 0);
    }

    private static void tells() {
        due.part("13 tells");
        DayBehind x = new DayBehind();
        x.one(PERSON, 0);
        x.one(PERSON, 0);
        x.one(TELLER, 1);
        for (int e = 0; e < 8; e++) {
            x.event(50, 1);
        }
        x.set(0, 6, 0b10110001);
        x.set(1, 6, 0b00011000);
        due.is("tells(0, 1)", x.tells(0, 1), 3);
        due.is("of(1, 6)", x.of(1, 6), 0b10111001);
        due.is("of(0, 6)", x.of(0, 6), 0b10110001);
        due.is("tells(0, 1) again", x.tells(0, 1), 0);
        due.is("tells(1, 0)", x.tells(1, 0), 1);
        due.is("tells(2, 0)", x.tells(2, 0), STATE);
        due.is("tells(0, 2)", x.tells(0, 2), STATE);
        due.is("tells(2, 2)", x.tells(2, 2), BEYOND);
        due.is("tells(0, 3)", x.tells(0, 3), BEYOND);
        due.is("tells(3, 0)", x.tells(3, 0), BEYOND);
        due.is("tells(-1, 0)", x.tells(-1, 0), BEYOND);
        due.is("tells(0, -1)", x.tells(0, -1), BEYOND);
        due.is("of(2, 6)", x.of(2, 6), 0);
    }

    private static void hours() {
        due.part("14 hours");
        DayBehind x = new DayBehind();
        due.is("hours(72)", x.hours(72), 0);
        due.is("hours(0)", x.hours(0), BEYOND);
        due.is("hours(73)", x.hours(73), BEYOND);
        due.is("hours(-1)", x.hours(-1), BEYOND);
        due.is("hours(HIGH)", x.hours(HIGH), BEYOND);
        x.one(PERSON, 0);
        x.one(PERSON, 1);
        due.is("hours(1)", x.hours(1), 100);
        due.is("now(0)", x.now(0), 73);
        due.is("now(1)", x.now(1), 1);
    }

    private static void hourCrossing() {
        due.part("14 hours: crossing");
        DayBehind x = new DayBehind();
        x.one(PERSON, 0);
        x.set(0, 3, 2);
        x.set(0, 4, 2);
        x.one(PERSON, 1);
        x.set(1, 3, 2);
        x.one(PERSON, 0);
        x.set(2, 3, 2);
        x.set(2, 2, 4);
        x.one(PERSON, 0);
        x.set(3, 3, 2);
        x.set(3, 2, 5);
        x.hours(2);
        due.is("now(4) before", x.now(4), 0b0010);
        due.is("hours(1)", x.hours(1), 45 + 50 + 4 + 0);
        due.is("now(4): once in an hour, who can pay", x.now(4), 0b1011);
        due.is("now(3)", x.now(3), 2);
        x.hours(24);
        due.is("now(4) a day on: back by COMES", x.now(4), 0b1010);
        due.is("of(0, 5)", x.of(0, 5), 2);
        due.is("of(0, 2)", x.of(0, 2), 40);
    }

    private static void hourTelling() {
        due.part("14 hours: telling");
        DayBehind x = new DayBehind();
        for (int e = 0; e < 4; e++) {
            x.event(500, 1);
        }
        x.one(PERSON, 0);
        x.one(TELLER, 0);
        x.one(FIREMAN, 0);
        x.one(TELLER, 1);
        x.one(LOVER, 1);
        x.set(0, 6, 1);
        x.set(1, 6, 2);
        x.set(2, 6, 4);
        x.set(3, 6, 8);
        x.set(4, 3, 0);
        x.hours(1);
        int[] knows = {7, 6, 6, 8, 8};
        for (int i = 0; i < 5; i++) {
            due.is("of(" + i + ", 6)", x.of(i, 6), knows[i]);
        }
        x.set(4, 4, 1);
        x.hours(1);
        due.is("who has just crossed is told there", x.of(4, 6), 14);
        x.set(3, 3, 2);
        x.set(3, 4, 2);
        x.hours(1);
        due.is("a teller that has just crossed tells there", x.of(0, 6), 15);
    }

    private static void hourMeeting() {
        due.part("14 hours: meeting");
        DayBehind x = new DayBehind();
        x.one(FIREMAN, 1);
        x.one(TELLER, 1);
        x.hours(60);
        x.event(36, -5);
        x.event(35, -5);
        x.event(70, 5);
        x.event(70, 0);
        x.event(70, -5);
        x.event(70, -1);
        x.event(90, -1);
        x.set(0, 6, 0b01011111);
        due.is("now(5)", x.now(5), 0);
        due.is("eventOf(0, 5)", x.eventOf(0, 5), 0);
        x.set(1, 6, 0b00100000);
        x.hours(1);
        due.is("now(5)", x.now(5), 0b01110001);
        due.is("a met one did not come on the left", x.of(0, 2), 50);

        DayBehind y = new DayBehind();
        y.event(5, -10);
        y.one(FIREMAN, 0);
        y.one(TELLER, 1);
        y.one(PERSON, 0);
        y.set(0, 6, 1);
        y.set(1, 6, 1);
        y.hours(3);
        due.is("nobody meets from the right, nor a teller", y.now(5), 0);
        y.set(0, 3, 3);
        y.hours(1);
        due.is("the fireman has come over", y.now(5), 1);
        y.worth(0, 10);
        y.hours(2);
        due.is("met stays, and it comes on the right, where the fireman had told it", y.of(2, 2), 70);
        y.hours(30);
        due.is("met does not come on the left", y.of(1, 2), 50);
        due.is("now(5)", y.now(5), 1);
    }

    private static void hourEvents() {
        due.part("14 hours: events");
        DayBehind x = new DayBehind();
        x.event(0, 20);
        x.event(0, -99);
        x.event(24, 10);
        for (int kind = 0; kind < 6; kind++) {
            x.one(kind, kind == 2 || kind == 3 ? 1 : 0);
        }
        x.set(0, 6, 2);
        x.set(1, 2, 9990);
        x.hours(1);
        int[] purses = {70, 9851, 50, 50, 0, 17};
        int[] knows = {3, 3, 0, 0, 3, 3};
        for (int i = 0; i < 6; i++) {
            due.is("of(" + i + ", 2)", x.of(i, 2), purses[i]);
            due.is("of(" + i + ", 6)", x.of(i, 6), knows[i]);
        }
        x.set(1, 2, 9990);
        x.hours(23);
        due.is("of(2, 2) before", x.of(2, 2), 50);
        x.hours(1);
        // DEBTOR: 50 + 10 - 49; TELLER: 50 + 20 - 99, so 0; on the right 10 for the third.
        int[] later = {80, 9999, 11, 0, 10, 25};
        for (int i = 0; i < 6; i++) {
            due.is("of(" + i + ", 2) a day on", x.of(i, 2), later[i]);
        }
        due.is("of(2, 6)", x.of(2, 6), 3);
        due.is("of(0, 6)", x.of(0, 6), 7);
    }

    private static void lastHour() {
        due.part("14 hours: the last hour");
        DayBehind x = new DayBehind();
        x.one(PERSON, 1);
        x.event(9980, 7);
        for (int i = 0; i < 138; i++) {
            x.hours(72);
        }
        due.is("now(0)", x.now(0), 9936);
        due.is("hours(64)", x.hours(64), STATE);
        due.is("hours(72)", x.hours(72), STATE);
        due.is("hours(73)", x.hours(73), BEYOND);
        due.is("hours(63)", x.hours(63), 50);
        due.is("now(0)", x.now(0), 9999);
        due.is("hours(1)", x.hours(1), STATE);
        due.is("now(0)", x.now(0), 9999);
        due.is("on goes beyond: on(0, 5, 0)", x.on(0, 5, 0), 50);
        due.is("on goes beyond: on(0, 6, 0)", x.on(0, 6, 0), 57);
        due.is("status(4)", x.status(4), 3);
    }

    private static void now() {
        due.part("15 now");
        DayBehind x = new DayBehind();
        x.one(PERSON, 1);
        x.one(FIREMAN, 0);
        x.one(PERSON, 1);
        x.event(400, -1);
        x.event(400, -2);
        x.hours(49);
        x.cross(1);
        x.cross(0);
        x.cross(0);
        x.set(1, 6, 2);
        due.is("now(0)", x.now(0), 49);
        due.is("now(1)", x.now(1), 1);
        due.is("now(2)", x.now(2), 135);
        due.is("now(3)", x.now(3), 3);
        due.is("now(4)", x.now(4), 7);
        due.is("now(5)", x.now(5), 0);
        x.hours(1);
        due.is("now(5)", x.now(5), 2);
        due.is("now(6)", x.now(6), BEYOND);
        due.is("now(-1)", x.now(-1), BEYOND);
    }

    private static void on() {
        due.part("16 on");
        DayBehind x = new DayBehind();
        x.one(BAKER, 0);
        x.set(0, 3, 1);
        x.event(0, 10);
        x.event(1, 99);
        int[][] due4 = {{50, 0, 0, 0}, {65, 0, 0, 1}, {60, 1, 1, 1}};
        for (int n = 0; n < 3; n++) {
            for (int what = 0; what < 4; what++) {
                due.is("on(0, " + n + ", " + what + ")", x.on(0, n, what), due4[n][what]);
            }
        }
        // 20 (known) at 24 on the left, 148 at 25.
        due.is("on(0, 25, 0)", x.on(0, 25, 0), 80);
        due.is("on(0, 26, 0)", x.on(0, 26, 0), 228);
        due.is("on(0, 72, 3)", x.on(0, 72, 3), 3);
        due.is("on(0, 73, 0)", x.on(0, 73, 0), BEYOND);
        due.is("on(0, -1, 0)", x.on(0, -1, 0), BEYOND);
        due.is("on(0, 1, 4)", x.on(0, 1, 4), BEYOND);
        due.is("on(0, 1, -1)", x.on(0, 1, -1), BEYOND);
        due.is("on(1, 1, 0)", x.on(1, 1, 0), BEYOND);
        due.is("on(-1, 1, 0)", x.on(-1, 1, 0), BEYOND);
        due.is("nothing changes: now(0)", x.now(0), 0);
        due.is("nothing changes: of(0, 2)", x.of(0, 2), 50);
    }

    private static void learns() {
        due.part("17 learns");
        DayBehind x = new DayBehind();
        x.one(PERSON, 0);
        x.one(PERSON, 1);
        x.event(71, 1);
        x.event(72, 1);
        x.event(47, 1);
        x.event(48, 1);
        x.event(0, 1);
        due.is("learns(0, 0)", x.learns(0, 0), 72);
        due.is("learns(0, 1)", x.learns(0, 1), NONE);
        due.is("learns(1, 2)", x.learns(1, 2), 72);
        due.is("learns(1, 3)", x.learns(1, 3), NONE);
        due.is("learns(0, 4)", x.learns(0, 4), 1);
        x.set(0, 6, 16);
        due.is("learns(0, 4) known", x.learns(0, 4), 0);
        due.is("learns(1, 4)", x.learns(1, 4), 25);
        due.is("learns(2, 0)", x.learns(2, 0), BEYOND);
        due.is("learns(-1, 0)", x.learns(-1, 0), BEYOND);
        due.is("learns(0, 5)", x.learns(0, 5), BEYOND);
        due.is("learns(0, -1)", x.learns(0, -1), BEYOND);
    }

    private static void first() {
        due.part("18 first");
        DayBehind x = new DayBehind();
        x.event(2, 1);
        x.event(72, 1);
        x.event(71, 1);
        due.is("first(0) with nobody", x.first(0), NONE);
        x.one(PERSON, 1);
        due.is("first(0) on the left", x.first(0), 0);
        x.one(PERSON, 0);
        x.one(PERSON, 0);
        due.is("first(0): the least of those on the right", x.first(0), 1);
        due.is("first(1)", x.first(1), NONE);
        due.is("first(2)", x.first(2), 1);
        x.set(2, 6, 1);
        due.is("first(0): who knows already", x.first(0), 2);
        due.is("first(3)", x.first(3), BEYOND);
        due.is("first(-1)", x.first(-1), BEYOND);
    }

    private static void met() {
        due.part("19 met");
        DayBehind x = new DayBehind();
        x.event(3, -1);
        x.event(9, -1);
        x.one(FIREMAN, 0);
        x.set(0, 3, 10);
        due.is("met(10)", x.met(10), 0);
        due.is("met(11)", x.met(11), 3);
        due.is("met(72)", x.met(72), 3);
        due.is("met(0)", x.met(0), 0);
        x.hours(11);
        due.is("met(0) after it", x.met(0), 3);
        due.is("met(73)", x.met(73), BEYOND);
        due.is("met(-1)", x.met(-1), BEYOND);
    }

    private static void broke() {
        due.part("20 broke");
        DayBehind x = new DayBehind();
        x.one(PERSON, 0);
        x.event(71, -46);
        due.is("broke(0)", x.broke(0), 72);
        x.event(70, 1);
        due.is("broke(0): just the toll is left", x.broke(0), NONE);
        x.toll(50);
        due.is("broke(0) at 71: 51 - 46", x.broke(0), 72);
        x.set(0, 3, 4);
        due.is("broke(0): it pays at 4", x.broke(0), 5);
        x.set(0, 2, 49);
        due.is("broke(0) at once", x.broke(0), 0);
        due.is("broke(1)", x.broke(1), BEYOND);
        due.is("broke(-1)", x.broke(-1), BEYOND);
    }

    private static void clocksAndRich() {
        due.part("21, 22 clocks and rich");
        DayBehind x = new DayBehind();
        x.one(PERSON, 0);
        due.is("clocks(0, 0)", x.clocks(0, 0), 0);
        due.is("rich(0, 0)", x.rich(0, 0), 50);
        // It must cross: the first hour's clock is the only one reached.
        due.is("clocks(0, 1): best not at 0", x.clocks(0, 1), 24);
        due.is("rich(0, 1)", x.rich(0, 1), 50);
        due.is("rich(0, 24): it pays once, and not back", x.rich(0, 24), 45);
        due.is("clocks(0, 24)", x.clocks(0, 24), 0);
        x.event(2, 90);
        // On the right at 2 (90), over to the left, known there at 26: 180.
        due.is("rich(0, 48)", x.rich(0, 48), 50 + 90 - 5 + 180 - 5);
        due.is("clocks(0, 48)", x.clocks(0, 48), 24 * 3 + 3);
        x.set(0, 3, 9);
        due.is("of(0, 3) stays", x.of(0, 3), 9);
        due.is("clocks(0, 48): what they are does not count", x.clocks(0, 48), 24 * 3 + 3);
        DayBehind y = new DayBehind();
        y.one(PERSON, 0);
        y.toll(20);
        // 99 on the right at 22, over at 23, 198 on the left at 46, and not back but at 23 again: after the 47th hour.
        y.event(22, 99);
        due.is("rich(0, 47)", y.rich(0, 47), 50 + 99 - 20 + 198);
        due.is("clocks(0, 47)", y.clocks(0, 47), 24 * 23 + 23);
        due.is("clocks(0, 49)", x.clocks(0, 49), BEYOND);
        due.is("clocks(0, -1)", x.clocks(0, -1), BEYOND);
        due.is("clocks(1, 1)", x.clocks(1, 1), BEYOND);
        due.is("clocks(-1, 1)", x.clocks(-1, 1), BEYOND);
        due.is("rich(0, 49)", x.rich(0, 49), BEYOND);
        due.is("rich(0, -1)", x.rich(0, -1), BEYOND);
        due.is("rich(1, 1)", x.rich(1, 1), BEYOND);
        due.is("rich(-1, 1)", x.rich(-1, 1), BEYOND);
    }

    private static void bears() {
        due.part("23 bears");
        DayBehind x = new DayBehind();
        due.is("bears(0, 48) with nobody", x.bears(0, 48), 99);
        due.is("bears(1, 0) with nobody", x.bears(1, 0), NONE);
        x.one(PERSON, 0);
        x.set(0, 3, 0);
        due.is("bears(50, 0)", x.bears(50, 0), 99);
        due.is("bears(51, 0)", x.bears(51, 0), NONE);
        due.is("bears(50, 1): too dear to cross", x.bears(50, 1), 99);
        x.set(0, 2, 200);
        due.is("bears(150, 1)", x.bears(150, 1), 50);
        due.is("bears(200, 1)", x.bears(200, 1), 0);
        due.is("bears(201, 1)", x.bears(201, 1), NONE);
        x.event(0, -99);
        // Who stays loses 99; who goes pays the toll; with 60 in the purse, tolls above that keep it there.
        x.set(0, 2, 60);
        due.is("bears(20, 1)", x.bears(20, 1), 40);
        due.is("bears(0, 1)", x.bears(0, 1), 99);
        due.is("toll stays", x.toll(5), 5);
        due.is("bears(100000, 1)", x.bears(100000, 1), BEYOND);
        due.is("bears(-1, 1)", x.bears(-1, 1), BEYOND);
        due.is("bears(1, 49)", x.bears(1, 49), BEYOND);
        due.is("bears(1, -1)", x.bears(1, -1), BEYOND);
        due.is("bears(99999, 48)", x.bears(99999, 48), NONE);
    }

    private static void bank() {
        due.part("24 bank");
        DayBehind x = new DayBehind();
        x.one(PERSON, 1);
        due.is("bank(0, 72): the same", x.bank(0, 72), 0);
        x.event(2, 30);
        due.is("bank(0, 2)", x.bank(0, 2), 0);
        due.is("bank(0, 26)", x.bank(0, 26), 0);
        due.is("bank(0, 72): the same on both", x.bank(0, 72), 0);
        x.hours(3);
        due.is("bank(0, 72)", x.bank(0, 72), 1);
        x.toll(99);
        due.is("bank(0, 72): no toll is paid for it", x.bank(0, 72), 1);
        due.is("of(0, 1)", x.of(0, 1), 1);
        due.is("bank(0, 0)", x.bank(0, 0), 0);
        due.is("bank(0, 73)", x.bank(0, 73), BEYOND);
        due.is("bank(0, -1)", x.bank(0, -1), BEYOND);
        due.is("bank(1, 1)", x.bank(1, 1), BEYOND);
        due.is("bank(-1, 1)", x.bank(-1, 1), BEYOND);
    }

    private static void kind() {
        due.part("25 kind");
        DayBehind x = new DayBehind();
        x.one(TELLER, 0);
        due.is("kind(0, 0)", x.kind(0, 0), PERSON);
        x.event(0, 20);
        due.is("kind(0, 1)", x.kind(0, 1), BAKER);
        x.worth(0, -20);
        due.is("kind(0, 1): it loses least", x.kind(0, 1), LOVER);
        x.set(0, 6, 1);
        due.is("kind(0, 1) known", x.kind(0, 1), LOVER);
        due.is("of(0, 0)", x.of(0, 0), TELLER);
        // As a fireman on the left it meets what would cost it 99.
        DayBehind y = new DayBehind();
        y.one(PERSON, 1);
        y.one(TELLER, 1);
        y.event(0, -99);
        y.set(1, 6, 1);
        y.set(0, 6, 0);
        due.is("kind(0, 24)", y.kind(0, 24), PERSON);
        due.is("kind(0, 25)", y.kind(0, 25), LOVER);
        due.is("kind(0, 73)", y.kind(0, 73), BEYOND);
        due.is("kind(0, -1)", y.kind(0, -1), BEYOND);
        due.is("kind(2, 1)", y.kind(2, 1), BEYOND);
        due.is("kind(-1, 1)", y.kind(-1, 1), BEYOND);
        // Nobody knows it: known by nobody, it is not met.
        DayBehind z = new DayBehind();
        z.one(PERSON, 1);
        z.event(0, -4);
        z.event(1, -4);
        z.set(0, 6, 1);
        z.toll(0);
        due.is("kind(0, 26)", z.kind(0, 26), LOVER);
    }

    private static void news() {
        due.part("26 news");
        DayBehind x = new DayBehind();
        x.one(PERSON, 0);
        due.is("news(0, 72) with no events", x.news(0, 72), NONE);
        x.event(5, 10);
        x.event(6, -10);
        x.event(7, 20);
        x.event(8, -20);
        due.is("news(0, 0)", x.news(0, 0), NONE);
        due.is("news(0, 5)", x.news(0, 5), NONE);
        due.is("news(0, 6)", x.news(0, 6), 0);
        due.is("news(0, 7): as much, the least", x.news(0, 7), 0);
        due.is("news(0, 8)", x.news(0, 8), 2);
        due.is("news(0, 72)", x.news(0, 72), 2);
        x.set(0, 6, 4);
        due.is("news(0, 72): the next best", x.news(0, 72), 3);
        x.set(0, 6, 15);
        due.is("news(0, 72): all is known", x.news(0, 72), NONE);
        due.is("of(0, 6)", x.of(0, 6), 15);
        due.is("news(0, 73)", x.news(0, 73), BEYOND);
        due.is("news(0, -1)", x.news(0, -1), BEYOND);
        due.is("news(1, 1)", x.news(1, 1), BEYOND);
        due.is("news(-1, 1)", x.news(-1, 1), BEYOND);
    }

    private static void needed() {
        due.part("27 needed");
        DayBehind x = new DayBehind();
        due.is("needed(72) with nobody", x.needed(72), NONE);
        for (int e = 0; e < 3; e++) {
            x.event(60, -9);
        }
        x.one(PERSON, 1);
        x.one(TELLER, 1);
        x.one(FIREMAN, 1);
        x.one(FIREMAN, 1);
        x.set(0, 6, 7);
        due.is("needed(5): nothing is met", x.needed(5), NONE);
        x.set(1, 6, 3);
        due.is("needed(5): the teller brings it", x.needed(5), 1);
        due.is("needed(0)", x.needed(0), NONE);
        x.set(2, 6, 4);
        due.is("needed(5): without 1, one is met; without 2, two", x.needed(5), 1);
        x.set(1, 6, 2);
        x.set(2, 6, 5);
        due.is("needed(5): without 2, just one", x.needed(5), 2);
        x.set(1, 6, 2);
        x.set(2, 6, 4);
        due.is("needed(5): of several the least", x.needed(5), 1);
        due.is("count(0)", x.count(0), 4);
        x.hours(1);
        due.is("needed(5): met already", x.needed(5), NONE);
        DayBehind y = new DayBehind();
        y.one(FIREMAN, 1);
        y.event(60, -9);
        y.set(0, 6, 1);
        due.is("needed(1): the only one", y.needed(1), 0);
        due.is("needed(73)", x.needed(73), BEYOND);
        due.is("needed(-1)", x.needed(-1), BEYOND);
    }

    private static void sum() {
        due.part("28 sum");
        DayBehind x = new DayBehind();
        x.event(2, 21);
        due.is("sum(0, 72) with nobody", x.sum(0, 72), 0);
        x.one(BAKER, 0);
        x.one(DEBTOR, 1);
        due.is("sum(0, 0)", x.sum(0, 0), 0);
        due.is("sum(0, 2)", x.sum(0, 2), 0);
        due.is("sum(0, 3)", x.sum(0, 3), 31);
        due.is("sum(0, 27)", x.sum(0, 27), 41);
        x.worth(0, -21);
        due.is("sum(0, 27) below 0", x.sum(0, 27), -41);
        x.one(LOVER, 1);
        due.is("sum(0, 27): what a LOVER gets anyway does not count", x.sum(0, 27), -51);
        x.worth(0, 0);
        due.is("sum(0, 27) of nothing", x.sum(0, 27), 0);
        // Worth 0, it would not be met, and the LOVER would get 9.
        x.worth(0, -21);
        x.one(FIREMAN, 1);
        x.set(3, 6, 1);
        due.is("sum(0, 27) met", x.sum(0, 27), -31 - 8);
        due.is("eventOf(0, 1)", x.eventOf(0, 1), -21);
        due.is("sum(0, 73)", x.sum(0, 73), BEYOND);
        due.is("sum(0, -1)", x.sum(0, -1), BEYOND);
        due.is("sum(1, 1)", x.sum(1, 1), BEYOND);
        due.is("sum(-1, 1)", x.sum(-1, 1), BEYOND);
    }

    private static void feedAndWipe() {
        due.part("29, 30 feed and wipe");
        DayBehind x = new DayBehind();
        due.is("wipe()", x.wipe(), 0);
        due.is("feed(0, 0)", x.feed(0, 0), BEYOND);
        due.is("feed(0, 5)", x.feed(0, 5), BEYOND);
        due.is("feed(0, -1)", x.feed(0, -1), BEYOND);
        for (int i = 1; i <= 29; i++) {
            due.is("feed 4", x.feed(LOW, 4), 4 * i);
        }
        due.is("feed(1, 3)", x.feed(1, 3), 119);
        due.is("feed(1, 2)", x.feed(1, 2), FULL);
        due.is("feed(1, 5), nearly full", x.feed(1, 5), BEYOND);
        due.is("count(2)", x.count(2), 119);
        due.is("feed(1, 1)", x.feed(1, 1), 120);
        due.is("feed(1, 1), full", x.feed(1, 1), FULL);
        due.is("wipe()", x.wipe(), 120);
        due.is("count(2)", x.count(2), 0);
        // "toll" and " 7" in the lowest bytes, the highest first.
        due.is("feed(toll)", x.feed(0x746F6C6C, 4), 4);
        due.is("feed( 7)", x.feed(0x7F7F2037, 2), 6);
        due.is("river()", x.river(), 1);
        due.is("toll(5)", x.toll(5), 7);
    }

    private static void river() {
        due.part("31 river");
        DayBehind x = new DayBehind();
        x.one(LOVER, 1);
        due.is("full item", Due.river(x, "fireman left purse 300 goes 7 comes 23"), 1);
        int[] fireman = {4, 1, 300, 7, 23, 0, 0};
        for (int what = 0; what < 7; what++) {
            due.is("of(1, " + what + ")", x.of(1, what), fireman[what]);
        }
        due.is("count(2)", x.count(2), 0);
        due.is("plain", Due.river(x, "  person;baker  left ;debtor goes 0;teller comes 0;lover purse 0"), 5);
        int[][] rows = {{0, 0, 50, -1, -1}, {1, 1, 50, -1, -1}, {2, 0, 50, 0, -1}, {3, 0, 50, -1, 0},
            {5, 0, 0, -1, -1}};
        for (int i = 0; i < 5; i++) {
            for (int what = 0; what < 5; what++) {
                due.is("of(" + (i + 2) + ", " + what + ")", x.of(i + 2, what), rows[i][what]);
            }
        }
        due.is("events", Due.river(x, "event 9999 worth less 99;event0worth99;event 5 worth less 0  "), 3);
        due.is("eventOf(0, 0)", x.eventOf(0, 0), 9999);
        due.is("eventOf(0, 1)", x.eventOf(0, 1), -99);
        due.is("eventOf(1, 0)", x.eventOf(1, 0), 0);
        due.is("eventOf(1, 1)", x.eventOf(1, 1), 99);
        due.is("eventOf(2, 1)", x.eventOf(2, 1), 0);
        due.is("tolls", Due.river(x, "toll 9;toll99;toll 000000000000000000042"), 3);
        due.is("toll(5)", x.toll(5), 42);
        due.is("an item of 9999", Due.river(x, "person purse 9999"), 1);
        due.is("of(7, 2)", x.of(7, 2), 9999);
        due.is("count(0)", x.count(0), 8);
        due.is("status(-1)", x.status(-1), 0);
    }

    private static void riverFaults() {
        due.part("31 river: faults");
        fault("", 0);
        fault("   ", 3);
        fault(";", 0);
        fault("person;", 7);
        fault("person ; ", 9);
        fault("person;;person", 7);
        fault("person person", 7);
        fault(" persons", 1);
        fault("perso", 0);
        fault("Person", 0);
        fault("person left left", 12);
        fault("person right", 7);
        fault("person goes 3 purse 4", 14);
        fault("person comes 3 goes 4", 15);
        fault("person purse 4 left", 15);
        fault("person leftpurse 4", 7);
        fault("person purse", 12);
        fault("person purse ", 13);
        fault("person purse 10000", 13);
        fault("person purse 99999999999999999999999", 13);
        fault("person purse 4294967297", 13);
        fault("person purse 5 5", 15);
        fault("person purse -5", 13);
        fault("person goes 24", 12);
        fault("person goes left", 12);
        fault("person comes 24", 13);
        fault("person comes", 12);
        fault("person comes 2 comes 2", 15);
        fault("person 5", 7);
        fault("5", 0);
        fault("event", 5);
        fault("event 10000 worth 1", 6);
        fault("event worth 1", 6);
        fault("event 5", 7);
        fault("event 5 6", 8);
        fault("event 5 worth", 13);
        fault("event 5 worth 100", 14);
        fault("event 5 worth less", 18);
        fault("event 5 worth less 100", 19);
        fault("event 5 worth less less 1", 19);
        fault("event 5 worth -1", 14);
        fault("event 5 worth 1 left", 16);
        fault("event;", 5);
        fault("event 5;", 7);
        fault("event 5 worth;", 13);
        fault("event 5 worth less;toll 5", 18);
        fault("person purse;", 12);
        fault("person goes;", 11);
        fault("person comes ; toll 5", 13);
        fault("toll;", 4);
        fault("berson", 0);
        fault("personz", 0);
        fault("person aleft", 7);
        fault("toll", 4);
        fault("toll 100", 5);
        fault("toll less 1", 5);
        fault("toll 5 6", 7);
        fault("toll 5, toll 6", 6);
        fault("toll 5;toll 6;tall 7", 14);
        fault("toll 5\tperson", 6);
        fault("left", 0);
        fault("worth 5", 0);
        fault("#", 0);
        fault("person #", 7);
        fault("tol#", 0);
        fault("person" + (char) 0, 6);
        fault("person" + (char) 233, 6);
        fault("person{", 6);
        fault("person`", 6);
        fault("person:", 6);
        fault("person purse /", 13);
    }

    private static void fault(String tape, int place) {
        DayBehind x = new DayBehind();
        x.one(PERSON, 0);
        due.is("river of '" + tape + "'", Due.river(x, tape), -1 - place);
        due.is("tape after '" + tape + "'", x.count(2), 0);
        due.is("people after '" + tape + "'", x.count(0), 1);
        due.is("events after '" + tape + "'", x.count(1), 0);
        due.is("toll after '" + tape + "'", x.toll(5), 5);
        due.is("no finding for '" + tape + "'", x.status(-1), 0);
    }

    private static void riverNinth() {
        due.part("31 river: the ninth");
        DayBehind x = new DayBehind();
        for (int i = 0; i < 7; i++) {
            x.one(PERSON, 0);
            x.event(5, 5);
        }
        due.is("a ninth one", Due.river(x, "baker; baker purse 3"), -1 - 7);
        due.is("count(0)", x.count(0), 7);
        due.is("a ninth event", Due.river(x, "event 1 worth 1; event 1 wor"), -1 - 17);
        due.is("count(1)", x.count(1), 7);
        due.is("the eighth of both", Due.river(x, "event 1 worth 1;lover left"), 2);
        due.is("one too many", Due.river(x, "toll 9; lover x"), -1 - 8);
        due.is("one too many", Due.river(x, "event"), -1);
        due.is("toll can still stand", Due.river(x, "toll 9"), 1);
        due.is("toll(5)", x.toll(5), 9);
    }

    private static void riverOfAWholeTape() {
        due.part("31 river: a whole tape");
        DayBehind x = new DayBehind();
        Due.feed(x, "toll 77  ;;");
        x.wipe();
        due.is("what was wiped is gone", Due.river(x, "toll 7"), 1);
        due.is("toll(5)", x.toll(5), 7);
        due.is("digits to the end", Due.river(x, "toll " + "0".repeat(114) + "8"), 1);
        due.is("toll(5)", x.toll(5), 8);
        due.is("blanks to the end", Due.river(x, "toll 9" + " ".repeat(114)), 1);
        due.is("toll(5)", x.toll(5), 9);
        due.is("letters to the end", Due.river(x, "toll 3;" + "e".repeat(113)), -1 - 7);
        due.is("blanks alone", Due.river(x, " ".repeat(120)), -1 - 120);
        due.is("twenty items", Due.river(x, "toll1;".repeat(19) + "toll2 "), 20);
        due.is("toll(5)", x.toll(5), 2);
    }

    private static void sheet() {
        due.part("32 sheet");
        DayBehind x = new DayBehind();
        due.is("sheet(0, 8, 40)", x.sheet(0, 8, 40), 40);
        due.is("sheet(3, 64, 0)", x.sheet(3, 64, 0), 0);
        due.is("sheet(4, 8, 1)", x.sheet(4, 8, 1), BEYOND);
        due.is("sheet(-1, 8, -1)", x.sheet(-1, 8, -1), BEYOND);
        due.is("sheet(0, 32, -1)", x.sheet(0, 32, -1), BEYOND);
        due.is("sheet(0, -8, 1)", x.sheet(0, -8, 1), BEYOND);
        due.is("sheet(0, 8, -1)", x.sheet(0, 8, -1), SIZE);
        due.is("sheet(0, 8, 41)", x.sheet(0, 8, 41), BEYOND);
        due.is("sheet(0, 0, -1)", x.sheet(0, 0, -1), SIZE);
        due.is("sheet(0, 0, LOW)", x.sheet(0, 0, LOW), SIZE);
        due.is("sheet(0, 0, 41)", x.sheet(0, 0, 41), BEYOND);
        due.is("sheet 0 is there", x.write(0, 39, 5L), 0);
        due.is("sheet(0, 16, 3): anew", x.sheet(0, 16, 3), 3);
        due.is("sheet(0, 8, 40)", x.sheet(0, 8, 40), 40);
        due.is("write(0, 39, 1)", x.write(0, 39, 1L), 0);
        due.is("write(0, 0, 1)", x.write(0, 0, 1L), 0);
        due.is("sheet(0, 8, 1): all 0", x.sheet(0, 8, 1), 1);
        due.is("write(0, 0, 1)", x.write(0, 0, 1L), 0);
        due.is("sheet(0, 0, 7)", x.sheet(0, 0, 7), 0);
        due.is("write(0, 0, 1)", x.write(0, 0, 1L), MISSING);
        due.is("lays(0)", x.lays(0), MISSING);
        due.is("write(3, 0, 1)", x.write(3, 0, 1L), BEYOND);
    }

    private static void write() {
        due.part("33 write");
        DayBehind x = new DayBehind();
        x.sheet(0, 8, 2);
        x.sheet(1, 16, 2);
        x.sheet(2, 64, 2);
        long v = 0x123456789ABCDEF0L;
        long[] cut = {(byte) v, (short) v, v};
        for (int s = 0; s < 3; s++) {
            due.is("write(" + s + ", 1, v)", x.write(s, 1, v), 0);
            due.is("write(" + s + ", 1, -1)", x.write(s, 1, -1L), cut[s]);
            due.is("write(" + s + ", 1, 127)", x.write(s, 1, 127L), -1);
            due.is("write(" + s + ", 1, 0)", x.write(s, 1, 0L), 127);
            due.is("write(" + s + ", 0, 0)", x.write(s, 0, 0L), 0);
            due.is("write(" + s + ", 2, 0)", x.write(s, 2, 0L), BEYOND);
            due.is("write(" + s + ", -1, 0)", x.write(s, -1, 0L), BEYOND);
        }
        due.is("write a finding", x.write(2, 0, -1000000001L), 0);
        int before = x.status(0);
        due.is("it is told as it is", x.write(2, 0, 0L), -1000000001L);
        due.is("and is none", x.status(0), before);
        due.is("write(3, -1, 0)", x.write(3, -1, 0L), MISSING);
        due.is("write(4, 0, 0)", x.write(4, 0, 0L), BEYOND);
        due.is("write(-1, 0, 0)", x.write(-1, 0, 0L), BEYOND);
    }

    private static void copy() {
        due.part("34 copy");
        DayBehind x = new DayBehind();
        x.sheet(0, 16, 5);
        x.sheet(1, 16, 3);
        x.sheet(2, 8, 3);
        for (int i = 0; i < 5; i++) {
            x.write(0, i, 10L + i);
        }
        due.is("copy(0, 1, 1, 0, 3)", x.copy(0, 1, 1, 0, 3), 3);
        numbers(x, 1, 11, 12, 13);
        due.is("copy onto itself, forward", x.copy(0, 0, 0, 1, 4), 4);
        numbers(x, 0, 10, 10, 11, 12, 13);
        due.is("copy onto itself, back", x.copy(0, 1, 0, 0, 4), 4);
        numbers(x, 0, 10, 11, 12, 13, 13);
        due.is("copy(0, 5, 1, 3, 0)", x.copy(0, 5, 1, 3, 0), 0);
        due.is("copy(0, 6, 1, 3, 0)", x.copy(0, 6, 1, 3, 0), BEYOND);
        due.is("copy(0, 3, 1, 0, 3)", x.copy(0, 3, 1, 0, 3), BEYOND);
        due.is("copy(0, 0, 1, 1, 3)", x.copy(0, 0, 1, 1, 3), BEYOND);
        due.is("copy(0, -1, 1, 0, 1)", x.copy(0, -1, 1, 0, 1), BEYOND);
        due.is("copy(0, 0, 1, -1, 1)", x.copy(0, 0, 1, -1, 1), BEYOND);
        due.is("copy(0, 0, 1, 0, -1)", x.copy(0, 0, 1, 0, -1), BEYOND);
        due.is("copy(0, 1, 1, 1, HIGH)", x.copy(0, 1, 1, 1, HIGH), BEYOND);
        due.is("copy(0, HIGH, 1, HIGH, 1)", x.copy(0, HIGH, 1, HIGH, 1), BEYOND);
        due.is("copy(0, 0, 1, 0, LOW)", x.copy(0, 0, 1, 0, LOW), BEYOND);
        due.is("copy(0, 0, 2, 0, -1)", x.copy(0, 0, 2, 0, -1), KIND);
        due.is("copy(3, 0, 2, 0, -1)", x.copy(3, 0, 2, 0, -1), MISSING);
        due.is("copy(2, 0, 3, 0, -1)", x.copy(2, 0, 3, 0, -1), MISSING);
        due.is("copy(3, 0, 3, 0, 0)", x.copy(3, 0, 3, 0, 0), MISSING);
        due.is("copy(3, 0, 4, 0, 0)", x.copy(3, 0, 4, 0, 0), BEYOND);
        due.is("copy(-1, 0, 3, 0, 0)", x.copy(-1, 0, 3, 0, 0), BEYOND);
        numbers(x, 1, 11, 12, 13);
    }

    private static void numbers(DayBehind x, int s, long... want) {
        for (int i = 0; i < want.length; i++) {
            long got = x.write(s, i, 0L);
            x.write(s, i, got);
            due.is("number " + i + " of sheet " + s, got, want[i]);
        }
    }

    private static void lays() {
        due.part("35 lays");
        DayBehind x = new DayBehind();
        x.sheet(0, 64, 6);
        long[] v = {9999, 10000, 0, -1, 1L << 32, 7};
        for (int i = 0; i < 6; i++) {
            x.write(0, i, v[i]);
        }
        due.is("lays(0) with nobody", x.lays(0), 0);
        for (int i = 0; i < 5; i++) {
            x.one(PERSON, 0);
        }
        due.is("lays(0)", x.lays(0), 2);
        int[] purses = {9999, 50, 0, 50, 50};
        for (int i = 0; i < 5; i++) {
            due.is("of(" + i + ", 2)", x.of(i, 2), purses[i]);
        }
        x.one(PERSON, 0);
        x.one(PERSON, 0);
        due.is("lays(0)", x.lays(0), 3);
        due.is("of(5, 2)", x.of(5, 2), 7);
        due.is("of(6, 2)", x.of(6, 2), 50);
        due.is("lays(1)", x.lays(1), MISSING);
        due.is("lays(4)", x.lays(4), BEYOND);
        due.is("lays(-1)", x.lays(-1), BEYOND);
    }

    private static void book() {
        due.part("36 book");
        DayBehind x = new DayBehind();
        x.one(PERSON, 0);
        x.event(0, 60);
        x.event(2, 99);
        x.event(3, 99);
        x.sheet(0, 64, 5);
        x.sheet(1, 8, 5);
        due.is("book(0, 0)", x.book(0, 0), 5);
        numbers(x, 0, 50, 110, 110, 209, 308);
        due.is("book(1, 0)", x.book(1, 0), 5);
        numbers(x, 1, 50, 110, 110, (byte) 209, (byte) 308);
        due.is("now(0)", x.now(0), 0);
        due.is("of(0, 2)", x.of(0, 2), 50);
        due.is("book(0, 1)", x.book(0, 1), BEYOND);
        due.is("book(0, -1)", x.book(0, -1), BEYOND);
        due.is("book(2, 1)", x.book(2, 1), MISSING);
        due.is("book(4, 0)", x.book(4, 0), BEYOND);
        due.is("book(-1, 0)", x.book(-1, 0), BEYOND);
        due.is("status(5)", x.status(5), 1);
    }

    private static void read() {
        due.part("37 read");
        DayBehind x = new DayBehind();
        x.one(PERSON, 0);
        x.sheet(0, 64, 0);
        due.is("read(0, 0) of nothing", x.read(0, 0), 625);
        x.sheet(0, 64, 1);
        due.is("read(0, 0): not its purse", x.read(0, 0), 0);
        x.write(0, 0, 50L);
        due.is("read(0, 0)", x.read(0, 0), 625);
        x.sheet(0, 64, 3);
        x.write(0, 0, 50L);
        x.write(0, 1, 50L);
        x.write(0, 2, 45L);
        due.is("read(0, 0): it goes at 1", x.read(0, 0), 25);
        x.write(0, 2, 50L);
        due.is("read(0, 0): it goes not at 0 or 1", x.read(0, 0), 23 * 25);
        x.sheet(0, 16, 26);
        for (int i = 0; i < 26; i++) {
            x.write(0, i, i < 1 ? 50L : i < 4 ? 45L : i < 25 ? 40L : 35L);
        }
        due.is("read(0, 0): at 0, back at 3, again at 24", x.read(0, 0), 1);
        x.set(0, 3, 5);
        due.is("read(0, 0): what they are does not count", x.read(0, 0), 1);
        due.is("of(0, 3)", x.of(0, 3), 5);
        x.write(0, 0, 50L + (1L << 16));
        due.is("read(0, 0): lowest bits", x.read(0, 0), 1);
        x.sheet(1, 64, 1);
        x.write(1, 0, 50L + (1L << 32));
        due.is("read(1, 0): all bits count", x.read(1, 0), 0);
        due.is("read(0, 1)", x.read(0, 1), BEYOND);
        due.is("read(0, -1)", x.read(0, -1), BEYOND);
        due.is("read(2, 1)", x.read(2, 1), MISSING);
        due.is("read(4, 0)", x.read(4, 0), BEYOND);
        due.is("read(-1, 0)", x.read(-1, 0), BEYOND);
    }

    private static void imageUndoTear() {
        due.part("38 to 40 image, undo, tear");
        DayBehind x = new DayBehind();
        due.is("undo()", x.undo(), NONE);
        Due.river(x, "fireman left purse 77 goes 3 comes 4;event 5 worth less 6;toll 11;event 6 worth 7");
        x.set(0, 6, 3);
        x.hours(3);
        due.is("image()", x.image(), 1);
        x.one(LOVER, 0);
        x.event(7, 7);
        x.cross(0);
        x.set(0, 2, 3);
        x.set(0, 3, 1);
        x.set(0, 4, 1);
        x.set(0, 6, 4);
        x.turn(0, BAKER);
        x.worth(0, 50);
        x.toll(0);
        x.hours(30);
        x.sheet(0, 8, 3);
        x.feed(1, 2);
        x.of(99, 0);
        due.is("undo()", x.undo(), 1);
        int[] fireman = {4, 1, 77, 3, 4, 0, 3};
        for (int what = 0; what < 7; what++) {
            due.is("of(0, " + what + ")", x.of(0, what), fireman[what]);
        }
        due.is("now(0)", x.now(0), 3);
        due.is("now(5)", x.now(5), 1);
        due.is("count(1)", x.count(1), 2);
        due.is("eventOf(0, 1)", x.eventOf(0, 1), -6);
        due.is("eventOf(1, 0)", x.eventOf(1, 0), 6);
        due.is("the tape stays", x.count(2), 2);
        due.is("the sheets stay", x.write(0, 2, 1L), 0);
        due.is("status stays", x.status(0), 1);
        due.is("toll(12)", x.toll(12), 11);
        due.is("undo(): it stays kept", x.undo(), 1);
        due.is("toll(13)", x.toll(13), 11);
        x.one(PERSON, 0);
        due.is("image(): the latest", x.image(), 1);
        x.one(PERSON, 0);
        due.is("undo()", x.undo(), 2);
        due.is("toll(1)", x.toll(1), 13);
        due.is("tear()", x.tear(), 1);
        due.is("tear()", x.tear(), 0);
        due.is("undo()", x.undo(), NONE);
        due.is("toll(1)", x.toll(1), 1);
        due.is("a new one is as new", x.one(PERSON, 0), 2);
        due.is("of(2, 6)", x.of(2, 6), 0);
        due.is("status(3)", x.status(3), 2);
        DayBehind y = new DayBehind();
        y.image();
        y.one(FIREMAN, 1);
        y.event(9, -9);
        y.set(0, 6, 1);
        y.cross(0);
        y.cross(0);
        y.hours(1);
        y.undo();
        due.is("number 0 again", y.one(PERSON, 0), 0);
        due.is("event 0 again", y.event(4, 4), 0);
        int[] anew = {0, 0, 50, -1, -1, 0, 0};
        for (int what = 0; what < 7; what++) {
            due.is("anew: of(0, " + what + ")", y.of(0, what), anew[what]);
        }
        due.is("anew: eventOf(0, 2)", y.eventOf(0, 2), 0);
    }

    private static void count() {
        due.part("41 count");
        DayBehind x = new DayBehind();
        x.one(PERSON, 0);
        x.one(PERSON, 0);
        x.event(1, 1);
        x.event(1, 1);
        x.event(1, 1);
        x.feed(0, 4);
        x.set(0, 6, 5);
        x.set(1, 6, 7);
        due.is("count(0)", x.count(0), 2);
        due.is("count(1)", x.count(1), 3);
        due.is("count(2)", x.count(2), 4);
        due.is("count(3)", x.count(3), 5);
        due.is("count(4)", x.count(4), BEYOND);
        due.is("count(-1)", x.count(-1), BEYOND);
    }

    private static void status() {
        due.part("42 status");
        DayBehind x = new DayBehind();
        x.one(LOVER, 0);
        x.toll(100);
        for (int i = 1; i < 8; i++) {
            x.one(PERSON, 0);
        }
        x.one(PERSON, 0);
        x.as(1, BAKER);
        x.as(1, LOVER);
        x.undo();
        x.undo();
        x.undo();
        x.toll(99);
        x.cross(0);
        x.write(0, 0, 0L);
        x.write(0, 0, 0L);
        x.sheet(0, 8, -1);
        int[] told = {1, 1, 2, 3, 1, 2, 1};
        for (int f = 0; f < 7; f++) {
            due.is("status(" + f + ")", x.status(f), told[f]);
        }
        due.is("status(-1)", x.status(-1), 11);
        due.is("status(7)", x.status(7), BEYOND);
        due.is("status(-2)", x.status(-2), BEYOND);
        due.is("status(0)", x.status(0), 3);
        due.is("status(-1)", x.status(-1), 13);
        x.image();
        x.status(8);
        x.undo();
        due.is("status(0): undo takes none back", x.status(0), 4);
    }
}
