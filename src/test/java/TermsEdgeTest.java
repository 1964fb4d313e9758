import java.util.function.Supplier;

/** Each sentence of the document's "Terms" (but for THE TEXT) that names a bound, an end or an order: at its edges. */
public final class TermsEdgeTest {
    private static final int PERSON = 0;
    private static final int BAKER = 1;
    private static final int DEBTOR = 2;
    private static final int TELLER = 3;
    private static final int FIREMAN = 4;
    private static final int LOVER = 5;
    private static final int RIGHT = 0;
    private static final int LEFT = 1;

    private static final Due due = new Due();

    public static void main(String[] args) {
        findingsHaveTheirNumbers();
        findingsInLongsToo();
        quotientsAreCut();
        setsAreToldByBits();
        hourIsNoughtAtFirst();
        hourIsNeverAboveTheLast();
        leftHasADayLess();
        clockWrapsAround();
        tollAtFirst();
        eventsAreEightAtMost();
        eventComesOnTheRightInItsHour();
        eventComesOnTheLeftADayOn();
        peopleAreEightAtMost();
        oneAtFirst();
        gainsNotKnown();
        gainsKnown();
        purseStaysWithinItsBounds();
        purseIsBoundAtEachEvent();
        crossesAtItsClockAlone();
        crossesWithTollOrMore();
        crossesOnceInAnHour();
        crossesAheadOfAllElse();
        tellersTellTheirBank();
        tellersTellByNumbers();
        firemenMeetOnTheLeft();
        firemenMeetBelowNought();
        firemenMeetUpToTheHour();
        firemenMeetWhatTheyHaveJustBeenTold();
        metComesOnTheRightAlone();
        eventByEvent();
        thenAllOfThemKnow();
        onChangesNothing();
        onGoesPastTheLastHour();
        sheetsAreMissingAtFirst();
        sheetsHaveFortyNumbersAtMost();
        fiveHundredAndTwelveCalls();
        due.part("TermsEdgeTest");
        due.end();
    }

    private static DayBehind withOne(int kind, int bank, int purse) {
        DayBehind x = new DayBehind();
        x.one(kind, bank);
        x.set(0, 2, purse);
        return x;
    }

    // ---- FINDINGS

    private static void findingsHaveTheirNumbers() {
        due.part("FINDINGS are answers below -1000000000");
        DayBehind x = Scene.full();
        due.is("BEYOND", x.toll(100), -1000000001);
        due.is("FULL", x.one(0, 0), -1000000002);
        due.is("KIND", x.as(0, 5), -1000000003);
        x.tear();
        due.is("NONE", x.undo(), -1000000004);
        due.is("STATE", x.tells(0, 1), -1000000005);
        due.is("MISSING", x.lays(1), -1000000006);
        due.is("SIZE", x.sheet(0, 8, -1), -1000000007);
        for (int f = 0; f < 7; f++) {
            due.is("status(" + f + ")", x.status(f), 1);
        }
    }

    private static void findingsInLongsToo() {
        due.part("FINDINGS in longs, too");
        DayBehind x = new DayBehind();
        x.sheet(1, 64, 1);
        due.is("no such sheet", x.write(4, 0, 1L), -1000000001L);
        due.is("MISSING", x.write(0, 0, 1L), -1000000006L);
        due.is("no such number", x.write(1, 1, 1L), -1000000001L);
    }

    private static void quotientsAreCut() {
        due.part("Quotients are cut (towards 0)");
        DayBehind x = Scene.lively();
        int[] worths = {-99, -3, -2, -1, 0, 1, 2, 3, 99};
        int[] halves = {-49, -1, -1, 0, 0, 0, 1, 1, 49};
        for (int i = 0; i < worths.length; i++) {
            due.is("a DEBTOR from " + worths[i], x.gains(DEBTOR, worths[i], 0), halves[i]);
            due.is("a BAKER from " + worths[i], x.gains(BAKER, worths[i], 0), worths[i] + halves[i]);
            due.is("a LOVER from " + worths[i], x.gains(LOVER, worths[i], 0), halves[i] + 3);
        }
    }

    private static void setsAreToldByBits() {
        due.part("Sets are told by bits");
        DayBehind x = new DayBehind();
        for (int i = 0; i < 8; i++) {
            x.one(PERSON, RIGHT);
            x.event(50, -1);
        }
        due.is("nobody on the LEFT", x.now(4), 0);
        due.is("nobody KNOWS the last", x.eventOf(7, 3), 0);
        x.set(0, 1, LEFT);
        x.set(7, 1, LEFT);
        x.set(0, 6, 128);
        x.set(7, 6, 129);
        due.is("the first and the last on the LEFT", x.now(4), 129);
        due.is("both KNOW the last", x.eventOf(7, 3), 129);
        due.is("the last KNOWS the first", x.eventOf(0, 3), 128);
        for (int i = 0; i < 8; i++) {
            x.set(i, 1, LEFT);
            x.set(i, 6, 255);
            x.turn(i, FIREMAN);
        }
        due.is("all on the LEFT", x.now(4), 255);
        due.is("all KNOW the first", x.eventOf(0, 3), 255);
        due.is("it KNOWS all", x.of(7, 6), 255);
        due.is("it KNOWS all ON", x.on(7, 1, 3), 255);
        due.is("all are MET ON", x.met(1), 255);
        x.hours(1);
        due.is("all are MET", x.now(5), 255);
    }

    // ---- 1: the hour, events

    private static void hourIsNoughtAtFirst() {
        due.part("THE HOUR (0 at first)");
        DayBehind x = new DayBehind();
        due.is("THE HOUR", x.now(0), 0);
        x.hours(1);
        due.is("an HOUR on", x.now(0), 1);
    }

    private static void hourIsNeverAboveTheLast() {
        due.part("THE HOUR (9999 at most)");
        DayBehind x = Scene.late();
        due.is("THE HOUR", x.now(0), 9999);
        due.is("one more", x.hours(1), Due.STATE);
        due.is("THE HOUR", x.now(0), 9999);
        DayBehind y = new DayBehind();
        for (int i = 0; i < 138; i++) {
            y.hours(72);
        }
        due.is("to 10000", y.hours(64), Due.STATE);
        due.is("to 9998", y.hours(62), 0);
        due.is("to 10000", y.hours(2), Due.STATE);
        due.is("to 9999", y.hours(1), 0);
        due.is("THE HOUR", y.now(0), 9999);
    }

    private static void leftHasADayLess() {
        due.part("the LEFT one (1) has 24 less");
        DayBehind x = new DayBehind();
        x.event(0, 1);
        x.event(9999, 1);
        due.is("the first HOUR", x.eventOf(0, 5) - x.eventOf(0, 4), 24);
        due.is("the last HOUR", x.eventOf(1, 5) - x.eventOf(1, 4), 24);
        due.is("the last HOUR", x.eventOf(1, 5), 9999 + 24);
    }

    private static void clockWrapsAround() {
        due.part("THE CLOCK is the rest of THE HOUR by 24, on both");
        DayBehind x = new DayBehind();
        due.is("at 0", x.now(1), 0);
        x.hours(23);
        due.is("at 23", x.now(1), 23);
        x.hours(1);
        due.is("at 24", x.now(1), 0);
        x.hours(1);
        due.is("at 25", x.now(1), 1);
        x.hours(22);
        due.is("at 47", x.now(1), 23);
        x.hours(1);
        due.is("at 48", x.now(1), 0);
        due.is("at 9999", Scene.late().now(1), 15);
    }

    private static void tollAtFirst() {
        due.part("TOLL (0 to 99; 5 at first)");
        DayBehind x = new DayBehind();
        due.is("at first", x.toll(99), 5);
        due.is("the last", x.toll(0), 99);
        due.is("the first", x.toll(1), 0);
    }

    private static void eventsAreEightAtMost() {
        due.part("EVENTS 0, 1, .. (at most 8): HOUR (0 to 9999), WORTH (-99 to 99), MET or not (at first)");
        DayBehind x = new DayBehind();
        for (int e = 0; e < 8; e++) {
            due.is("EVENT " + e, x.event(e == 7 ? 9999 : 0, e == 7 ? 99 : -99), e);
        }
        due.is("a ninth", x.event(0, 0), Due.FULL);
        due.is("how many", x.count(1), 8);
        due.is("HOUR of the first", x.eventOf(0, 0), 0);
        due.is("WORTH of the first", x.eventOf(0, 1), -99);
        due.is("HOUR of the last", x.eventOf(7, 0), 9999);
        due.is("WORTH of the last", x.eventOf(7, 1), 99);
        due.is("MET, none", x.now(5), 0);
    }

    private static void eventComesOnTheRightInItsHour() {
        due.part("An EVENT comes on the RIGHT as THE HOUR is its own");
        int[][] hoursAndDue = {{9, 50}, {10, 57}, {11, 57}, {12, 50}};
        for (int[] row : hoursAndDue) {
            DayBehind x = withOne(PERSON, RIGHT, 50);
            x.hours(10);
            x.event(row[0], 7);
            due.is("EVENT at " + row[0] + ", two HOURS from 10 on", x.hours(2), row[1]);
        }
        due.is("the last HOUR of all, ON 1", Scene.late().on(0, 1, 3) & 1, 0);
        DayBehind y = Scene.late();
        y.set(0, 3, -1);
        due.is("the last HOUR of all, ON 1, who stays on the RIGHT", y.on(0, 1, 3) & 1, 1);
    }

    private static void eventComesOnTheLeftADayOn() {
        due.part("An EVENT comes on the LEFT as THE HOUR is that and 24");
        int[][] hoursAndDue = {{5, 50}, {6, 57}, {7, 57}, {8, 50}, {30, 50}, {31, 50}};
        for (int[] row : hoursAndDue) {
            DayBehind x = withOne(PERSON, LEFT, 50);
            x.hours(30);
            x.event(row[0], 7);
            due.is("EVENT at " + row[0] + ", two HOURS from 30 on", x.hours(2), row[1]);
        }
    }

    // ---- 1: people, gains

    private static void peopleAreEightAtMost() {
        due.part("PEOPLE 0, 1, .. (at most 8)");
        DayBehind x = new DayBehind();
        for (int i = 0; i < 8; i++) {
            due.is("one " + i, x.one(i % 6, i % 2), i);
        }
        due.is("a ninth", x.one(0, 0), Due.FULL);
        due.is("how many", x.count(0), 8);
    }

    private static void oneAtFirst() {
        due.part("PURSE 50 at first, GOES and COMES none, CROSSED 0, KNOWS none");
        int[] fresh = {50, -1, -1, 0, 0};
        DayBehind x = new DayBehind();
        x.event(0, 1);
        for (int i = 0; i < 8; i++) {
            x.one(i % 6, i % 2);
            for (int what = 2; what < 7; what++) {
                due.is("of(" + i + ", " + what + ")", x.of(i, what), fresh[what - 2]);
            }
        }
        x.hours(48);
        due.is("by no CLOCK of a day does one cross who has none", x.now(3), 0);
    }

    private static void gainsNotKnown() {
        due.part("GAINS: who doesn't KNOW it");
        int[] worths = {-99, -1, 0, 1, 99};
        int[][] gains = {{-99, -1, 0, 1, 99}, {-148, -1, 0, 1, 148}, {-49, 0, 0, 0, 49}, {-99, -1, 0, 1, 99},
            {-99, -1, 0, 1, 99}, {-46, 3, 3, 3, 52}};
        for (int kind = 0; kind < 6; kind++) {
            for (int w = 0; w < 5; w++) {
                gainsIs(kind, worths[w], 0, gains[kind][w]);
            }
        }
    }

    private static void gainsKnown() {
        due.part("GAINS: who KNOWS it already: twice w, if that is above 0, else 0");
        int[] worths = {-99, -1, 0, 1, 99};
        int[][] gains = {{0, 0, 0, 2, 198}, {0, 0, 0, 2, 198}, {-1, -1, -1, 1, 197}, {0, 0, 0, 2, 198},
            {0, 0, 0, 2, 198}, {9, 9, 9, 11, 207}};
        for (int kind = 0; kind < 6; kind++) {
            for (int w = 0; w < 5; w++) {
                gainsIs(kind, worths[w], 1, gains[kind][w]);
            }
        }
    }

    /** As gains() tells it, and as it is when the EVENT comes on either BANK. */
    private static void gainsIs(int kind, int worth, int known, int want) {
        String name = "KIND " + kind + ", WORTH " + worth;
        for (int bank = RIGHT; bank <= LEFT; bank++) {
            DayBehind x = withOne(kind, bank, 500);
            x.event(0, worth);
            due.is(name, x.gains(0, worth, known), want);
            if (bank == LEFT) {
                x.hours(24);
            }
            // Set just ahead of it: a FIREMAN on the LEFT who KNOWS it would have MET it.
            x.set(0, 6, known);
            boolean isMet = bank == LEFT && kind == FIREMAN && known == 1 && worth < 0;
            due.is(name + " on BANK " + bank, x.hours(1), 500 + (isMet ? 0 : want));
        }
    }

    private static void purseStaysWithinItsBounds() {
        due.part("PURSE is more by that (0 to 9999, else the bound)");
        int[][] rows = {{PERSON, 9998, 1, 9999}, {PERSON, 9999, 0, 9999}, {PERSON, 9999, 1, 9999},
            {PERSON, 9998, 2, 9999}, {PERSON, 9900, 99, 9999}, {PERSON, 9901, 99, 9999}, {PERSON, 9900, 98, 9998},
            {PERSON, 1, -1, 0}, {PERSON, 0, -1, 0}, {PERSON, 99, -99, 0}, {PERSON, 98, -99, 0}, {PERSON, 100, -99, 1},
            {BAKER, 148, -99, 0}, {BAKER, 147, -99, 0}, {BAKER, 149, -99, 1}, {BAKER, 9851, 99, 9999},
            {BAKER, 9852, 99, 9999}, {BAKER, 9850, 99, 9998}, {LOVER, 9996, 0, 9999}, {LOVER, 9997, 0, 9999}};
        for (int[] row : rows) {
            DayBehind x = withOne(row[0], RIGHT, row[1]);
            x.event(0, row[2]);
            due.is(row[1] + " and " + row[2] + " ON", x.on(0, 1, 0), row[3]);
            due.is(row[1] + " and " + row[2], x.hours(1), row[3]);
        }
        for (int purse = 0; purse <= 2; purse++) {
            DayBehind x = withOne(DEBTOR, RIGHT, purse);
            x.event(0, -9);
            x.set(0, 6, 1);
            due.is("a DEBTOR who KNOWS it, " + purse, x.hours(1), Math.max(0, purse - 1));
        }
    }

    private static void purseIsBoundAtEachEvent() {
        due.part("PURSE is more by that: the bound holds EVENT by EVENT");
        DayBehind x = withOne(PERSON, RIGHT, 9990);
        x.event(0, 99);
        x.event(0, -99);
        due.is("first above, then less", x.hours(1), 9900);
        DayBehind y = withOne(PERSON, RIGHT, 10);
        y.event(0, -99);
        y.event(0, 99);
        due.is("first below, then more", y.hours(1), 99);
    }

    // ---- 1: an hour, crossing

    private static void crossesAtItsClockAlone() {
        due.part("it crosses, if it is on the RIGHT and GOES is THE CLOCK, or on the LEFT and COMES is THE CLOCK");
        for (int bank = RIGHT; bank <= LEFT; bank++) {
            for (int clock : new int[] {0, 1, 23}) {
                DayBehind x = withOne(PERSON, bank, 50);
                x.set(0, bank == RIGHT ? 3 : 4, clock);
                due.is("ahead of " + clock, x.on(0, clock, 2), 0);
                due.is("at " + clock, x.on(0, clock + 1, 2), 1);
                due.is("at " + clock + ", BANK", x.on(0, clock + 1, 1), 1 - bank);
                due.is("a day on it is not where that CLOCK counts", x.on(0, clock + 25, 2), 1);
                x.set(0, 1, 1 - bank);
                due.is("on the other BANK at " + clock, x.on(0, 72, 2), 0);
            }
        }
        DayBehind y = withOne(PERSON, RIGHT, 50);
        y.set(0, 3, 0);
        y.hours(1);
        y.set(0, 1, RIGHT);
        due.is("not at 23", y.on(0, 23, 2), 1);
        due.is("at 24, which is CLOCK 0 again", y.on(0, 24, 2), 2);
    }

    private static void crossesWithTollOrMore() {
        due.part("and its PURSE is TOLL or more: PURSE is TOLL less, CROSSED 1 more");
        int[][] pursesAndTolls = {{0, 0}, {1, 0}, {5, 5}, {6, 5}, {99, 99}, {9999, 99}};
        for (int[] row : pursesAndTolls) {
            DayBehind x = withOne(PERSON, RIGHT, row[0]);
            x.set(0, 3, 0);
            x.toll(row[1]);
            due.is(row[0] + " of " + row[1], x.hours(1), row[0] - row[1]);
            due.is(row[0] + " of " + row[1] + ", BANK", x.of(0, 1), LEFT);
            due.is(row[0] + " of " + row[1] + ", CROSSED", x.of(0, 5), 1);
        }
        int[][] tooPoor = {{0, 1}, {4, 5}, {98, 99}, {0, 99}};
        for (int[] row : tooPoor) {
            DayBehind x = withOne(PERSON, LEFT, row[0]);
            x.set(0, 4, 0);
            x.toll(row[1]);
            due.is(row[0] + " of " + row[1], x.hours(1), row[0]);
            due.is(row[0] + " of " + row[1] + ", BANK", x.of(0, 1), LEFT);
            due.is(row[0] + " of " + row[1] + ", CROSSED", x.of(0, 5), 0);
        }
    }

    private static void crossesOnceInAnHour() {
        due.part("(each once in an HOUR)");
        DayBehind x = withOne(PERSON, RIGHT, 50);
        x.set(0, 3, 0);
        x.set(0, 4, 0);
        x.hours(1);
        due.is("CROSSED", x.of(0, 5), 1);
        due.is("BANK", x.of(0, 1), LEFT);
        due.is("PURSE", x.of(0, 2), 45);
        x.hours(24);
        due.is("CROSSED a day on", x.of(0, 5), 2);
        due.is("BANK a day on", x.of(0, 1), RIGHT);
    }

    private static void crossesAheadOfAllElse() {
        due.part("first, each: it crosses (ahead of what is told and of what comes)");
        DayBehind x = withOne(PERSON, RIGHT, 5);
        x.set(0, 3, 0);
        x.event(0, -99);
        x.one(PERSON, LEFT);
        x.set(1, 2, 4);
        x.set(1, 4, 0);
        x.event(0, 99);
        due.is("who goes is not there as it comes; who can't pay yet stays", x.hours(1), 0 + 4);
        due.is("nobody KNOWS", x.count(3), 0);
    }

    // ---- 1: an hour, telling and meeting

    private static void tellersTellTheirBank() {
        due.part("Then each TELLER (or one under it): all on its BANK KNOW what it KNOWS");
        for (int kind = 0; kind < 6; kind++) {
            DayBehind x = new DayBehind();
            for (int e = 0; e < 8; e++) {
                x.event(500, 1);
            }
            x.one(PERSON, RIGHT);
            x.one(kind, RIGHT);
            x.one(LOVER, RIGHT);
            x.one(TELLER, LEFT);
            x.set(1, 6, 0b10000001);
            x.set(2, 6, 0b00010000);
            x.hours(1);
            int told = kind == TELLER || kind == FIREMAN ? 0b10000001 : 0;
            due.is("KIND " + kind + ", a lower number", x.of(0, 6), told);
            due.is("KIND " + kind + ", a higher number", x.of(2, 6), told | 0b00010000);
            due.is("KIND " + kind + ", itself", x.of(1, 6), 0b10000001);
            due.is("KIND " + kind + ", on the other BANK", x.of(3, 6), 0);
        }
    }

    private static void tellersTellByNumbers() {
        due.part("Then each TELLER, by numbers");
        DayBehind x = new DayBehind();
        x.event(500, 1);
        x.event(500, 1);
        x.one(TELLER, LEFT);
        x.one(PERSON, LEFT);
        x.one(FIREMAN, LEFT);
        x.set(0, 6, 1);
        x.set(2, 6, 2);
        x.hours(1);
        due.is("each KNOWS both", x.count(3), 6);
    }

    private static DayBehind fireman(int kind, int bank, int hour, int worth) {
        DayBehind x = new DayBehind();
        x.one(kind, bank);
        x.event(hour, worth);
        x.set(0, 6, 1);
        return x;
    }

    private static void firemenMeetOnTheLeft() {
        due.part("Then each FIREMAN on the LEFT: EVENTS that it KNOWS");
        for (int kind = 0; kind < 6; kind++) {
            due.is("KIND " + kind + " on the RIGHT", fireman(kind, RIGHT, 50, -9).met(72), 0);
            due.is("KIND " + kind + " on the LEFT", fireman(kind, LEFT, 50, -9).met(72), kind == FIREMAN ? 1 : 0);
        }
        DayBehind x = fireman(FIREMAN, LEFT, 50, -9);
        x.set(0, 6, 0);
        due.is("it doesn't KNOW it", x.met(72), 0);
        DayBehind y = fireman(FIREMAN, RIGHT, 50, -9);
        y.set(0, 3, 7);
        due.is("ahead of its crossing", y.met(7), 0);
        due.is("in the HOUR of its crossing", y.met(8), 1);
    }

    private static void firemenMeetBelowNought() {
        due.part("whose WORTH is below 0");
        int[] worths = {-99, -1, 0, 1, 99};
        for (int worth : worths) {
            due.is("WORTH " + worth, fireman(FIREMAN, LEFT, 50, worth).met(1), worth < 0 ? 1 : 0);
        }
    }

    private static void firemenMeetUpToTheHour() {
        due.part("and whose HOUR and 24 is no less than THE HOUR, are MET");
        int[][] hoursAndDue = {{0, 0}, {5, 0}, {6, 1}, {7, 1}, {30, 1}, {9999, 1}};
        for (int[] row : hoursAndDue) {
            DayBehind x = withOne(FIREMAN, LEFT, 50);
            x.hours(30);
            x.event(row[0], -9);
            x.set(0, 6, 1);
            due.is("EVENT at " + row[0] + ", THE HOUR 30", x.met(1), row[1]);
            due.is("EVENT at " + row[0] + " does not come in that HOUR", x.hours(1), 50);
            due.is("EVENT at " + row[0] + ", 72 HOURS on", x.met(72), row[1]);
        }
    }

    private static void firemenMeetWhatTheyHaveJustBeenTold() {
        due.part("Then each TELLER .. Then each FIREMAN .. Then EVENT by EVENT");
        DayBehind x = new DayBehind();
        x.one(FIREMAN, LEFT);
        x.one(TELLER, LEFT);
        x.event(0, -9);
        x.hours(24);
        x.set(1, 6, 1);
        due.is("told, MET, and so it does not come", x.hours(1), 100);
        due.is("MET", x.now(5), 1);
        DayBehind y = new DayBehind();
        y.one(FIREMAN, LEFT);
        y.event(0, -9);
        y.hours(24);
        due.is("not told: it comes", y.hours(1), 41);
        due.is("then it KNOWS it", y.of(0, 6), 1);
        due.is("too late", y.met(72), 0);
        DayBehind z = new DayBehind();
        z.one(FIREMAN, RIGHT);
        z.event(0, -9);
        z.set(0, 3, 1);
        due.is("KNOWN in HOUR 0, over in HOUR 1", z.met(1), 0);
        due.is("MET in HOUR 1", z.met(2), 1);
    }

    private static void metComesOnTheRightAlone() {
        due.part("as it comes on the RIGHT, and (if it isn't MET) on the LEFT");
        DayBehind x = fireman(FIREMAN, LEFT, 3, -9);
        x.one(PERSON, RIGHT);
        x.one(PERSON, LEFT);
        x.hours(1);
        x.worth(0, 9);
        x.set(0, 6, 0);
        x.set(2, 6, 0);
        x.hours(2);
        due.is("ahead of it", x.now(2), 150);
        due.is("on the RIGHT it comes", x.hours(1), 159);
        due.is("on the LEFT it does not", x.hours(72), 159);
        due.is("who KNOWS", x.eventOf(0, 3), 2);
        due.is("MET still", x.eventOf(0, 2), 1);
    }

    // ---- 1: an hour, events

    private static void eventByEvent() {
        due.part("Then EVENT by EVENT");
        DayBehind x = new DayBehind();
        x.one(PERSON, RIGHT);
        x.one(PERSON, LEFT);
        for (int e = 0; e < 8; e++) {
            x.event(e < 4 ? 24 : 0, 1 << e % 4);
        }
        x.hours(24);
        due.is("on the RIGHT", x.of(0, 2), 65);
        due.is("on the LEFT", x.of(1, 2), 50);
        due.is("both in one HOUR", x.hours(1), 65 + 15 + 50 + 15);
        due.is("who is on the RIGHT KNOWS all", x.of(0, 6), 0xFF);
        due.is("who is on the LEFT", x.of(1, 6), 0xF0);
    }

    private static void thenAllOfThemKnow() {
        due.part("each one there GAINS; then all of them KNOW it");
        DayBehind x = new DayBehind();
        for (int i = 0; i < 8; i++) {
            x.one(i == 0 ? TELLER : PERSON, RIGHT);
        }
        x.event(0, 10);
        due.is("nobody knew as it came", x.hours(1), 8 * 60);
        due.is("then all", x.eventOf(0, 3), 255);
        DayBehind y = new DayBehind();
        y.event(0, 10);
        due.is("with nobody there", y.hours(30), 0);
        due.is("nobody KNOWS", y.eventOf(0, 3), 0);
    }

    // ---- 2 and 3

    private static void onChangesNothing() {
        due.part("ON: n HOURS go on with all as it is; nothing changes");
        Supplier<DayBehind> m = Scene::lively;
        for (int n : new int[] {0, 1, 72}) {
            Scene.changesNothing(due, "on " + n, m, x -> x.on(0, n, 0));
            Scene.changesNothing(due, "met " + n, m, x -> x.met(n));
            Scene.changesNothing(due, "bank " + n, m, x -> x.bank(0, n));
            Scene.changesNothing(due, "kind " + n, m, x -> x.kind(0, n));
            Scene.changesNothing(due, "news " + n, m, x -> x.news(0, n));
            Scene.changesNothing(due, "needed " + n, m, x -> x.needed(n));
            Scene.changesNothing(due, "sum " + n, m, x -> x.sum(0, n));
        }
        for (int n : new int[] {0, 1, 48}) {
            Scene.changesNothing(due, "clocks " + n, m, x -> x.clocks(0, n));
            Scene.changesNothing(due, "rich " + n, m, x -> x.rich(0, n));
            Scene.changesNothing(due, "bears " + n, m, x -> x.bears(100, n));
        }
        Scene.changesNothing(due, "learns", m, x -> x.learns(0, 1));
        Scene.changesNothing(due, "first", m, x -> x.first(1));
        Scene.changesNothing(due, "broke", m, x -> x.broke(0));
        Scene.changesNothing(due, "read", m, x -> x.read(1, 0));
        Scene.changesNothing(due, "as", m, x -> x.as(1, 0));
        Scene.changesNothing(due, "gains", m, x -> x.gains(1, 9, 1));
    }

    private static void onGoesPastTheLastHour() {
        due.part("ON from THE HOUR 9999 on: those calls name no STATE");
        DayBehind x = Scene.late();
        // So far 30, 1 and 1 on the RIGHT; in HOUR 9999 it goes over, to what it KNOWS of 9975.
        due.is("on 0", x.on(0, 0, 0), 50 + 30 + 1 + 1);
        due.is("on 1", x.on(0, 1, 0), 82 - 5 + 2 * 30);
        due.is("on 72", x.on(0, 72, 2), 1);
        due.is("learns", x.learns(1, 0), 25);
        due.is("first", x.first(0), 0);
        due.is("met 72", x.met(72), 0);
        x.sheet(0, 64, 40);
        due.is("book", x.book(0, 0), 40);
        due.is("read", x.read(0, 0) > 0 ? 1 : 0, 1);
        due.is("clocks", x.clocks(0, 48) >= 0 ? 1 : 0, 1);
        due.is("THE HOUR", x.now(0), 9999);
        due.is("no finding", x.status(-1), 0);
    }

    private static void sheetsAreMissingAtFirst() {
        due.part("SHEETS 0 to 3 are rows, or MISSING (at first)");
        DayBehind x = new DayBehind();
        x.one(0, 0);
        for (int s = 0; s <= 3; s++) {
            due.is("write " + s, x.write(s, 0, 1L), Due.MISSING);
            due.is("copy " + s, x.copy(s, 0, s, 0, 0), Due.MISSING);
            due.is("lays " + s, x.lays(s), Due.MISSING);
            due.is("book " + s, x.book(s, 0), Due.MISSING);
            due.is("read " + s, x.read(s, 0), Due.MISSING);
        }
        for (int s : new int[] {-1, 4}) {
            due.is("write " + s, x.write(s, 0, 1L), Due.BEYOND);
            due.is("sheet " + s, x.sheet(s, 8, 1), Due.BEYOND);
        }
    }

    private static void sheetsHaveFortyNumbersAtMost() {
        due.part("rows of at most 40 numbers of 8, 16 or 64 bits");
        for (int bits : new int[] {8, 16, 64}) {
            DayBehind x = new DayBehind();
            for (int s = 0; s <= 3; s++) {
                due.is("sheet " + s, x.sheet(s, bits, 40), 40);
                due.is("its last", x.write(s, 39, 1L), 0);
                due.is("behind it", x.write(s, 40, 1L), Due.BEYOND);
                due.is("41", x.sheet(s, bits, 41), Due.BEYOND);
                due.is("its last, still there", x.write(s, 39, 2L), 1);
            }
        }
    }

    private static void fiveHundredAndTwelveCalls() {
        due.part("An object is used for at most 512 calls");
        DayBehind x = new DayBehind();
        x.one(PERSON, RIGHT);
        for (int i = 0; i < 510; i++) {
            x.toll(100);
        }
        due.is("the last call", x.status(-1), 510);
    }
}
