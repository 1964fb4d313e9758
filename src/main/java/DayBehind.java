/**
 * A river between two days: the left bank is a day behind the right one.
 * Every object and row but constants is made by the constructor and used again, so that no later call makes any.
 */
public final class DayBehind {
    private static final int BEYOND = -1000000001;
    private static final int FULL = -1000000002;
    private static final int KIND = -1000000003;
    private static final int NONE = -1000000004;
    private static final int STATE = -1000000005;
    private static final int MISSING = -1000000006;
    private static final int SIZE = -1000000007;
    private static final int FINDINGS = 7;

    private static final int RIGHT = 0;
    private static final int LEFT = 1;
    private static final int NEVER = -1;
    private static final int DAY = 24;
    private static final int LAST_CLOCK = DAY - 1;
    private static final int LAST_HOUR = 9999;
    private static final int MOST_WORTH = 99;
    private static final int MOST_TOLL = 99;
    private static final int MOST_PURSE = 9999;
    private static final int MOST_SOUGHT = 99999;
    private static final int FIRST_TOLL = 5;
    private static final int FIRST_PURSE = 50;
    private static final int MOST_PEOPLE = 8;
    private static final int MOST_EVENTS = 8;
    private static final int MOST_HOURS = 72;
    private static final int MOST_PLANNED_HOURS = 48;

    private static final int PERSON = 0;
    private static final int BAKER = 1;
    private static final int DEBTOR = 2;
    private static final int TELLER = 3;
    private static final int FIREMAN = 4;
    private static final int LOVER = 5;
    private static final int LAST_KIND = LOVER;

    private static final int MOST_BYTES = 120;
    private static final int MOST_FED = 4;
    private static final int SHEETS = 4;
    private static final int MOST_NUMBERS = 40;

    private final River present;
    private final River trial;
    private final River kept;
    private boolean keeps;
    private final Best best;
    private final Text text;
    private final Sheet[] sheets;
    private final int[] told;

    public DayBehind() {
        present = new River();
        trial = new River();
        kept = new River();
        keeps = false;
        best = new Best();
        text = new Text();
        sheets = new Sheet[SHEETS];
        for (int s = 0; s < SHEETS; s++) {
            sheets[s] = new Sheet();
        }
        told = new int[FINDINGS];
    }

    // ---- the river

    public int toll(int v) {
        if (outside(v, 0, MOST_TOLL)) {
            return refuse(BEYOND);
        }
        int was = present.toll;
        present.toll = v;
        return was;
    }

    public int event(int hour, int worth) {
        if (outside(hour, 0, LAST_HOUR) || outside(worth, -MOST_WORTH, MOST_WORTH)) {
            return refuse(BEYOND);
        }
        if (present.hasAllEvents()) {
            return refuse(FULL);
        }
        return present.addEvent(hour, worth);
    }

    public int eventOf(int event, int what) {
        if (noEvent(event)) {
            return refuse(BEYOND);
        }
        Event asked = present.events[event];
        switch (what) {
            case 0:
                return asked.hour;
            case 1:
                return asked.worth;
            case 2:
                return asked.met ? 1 : 0;
            case 3:
                return present.thoseWhoKnow(event);
            case 4:
                return asked.hoursToRight(present.hour);
            case 5:
                return asked.hoursToLeft(present.hour);
            default:
                return refuse(BEYOND);
        }
    }

    public int worth(int event, int v) {
        if (noEvent(event) || outside(v, -MOST_WORTH, MOST_WORTH)) {
            return refuse(BEYOND);
        }
        int was = present.events[event].worth;
        present.events[event].worth = v;
        return was;
    }

    // ---- people

    public int one(int kind, int bank) {
        if (outside(kind, PERSON, LAST_KIND) || outside(bank, RIGHT, LEFT)) {
            return refuse(BEYOND);
        }
        if (present.hasAllPeople()) {
            return refuse(FULL);
        }
        return present.addOne(kind, bank);
    }

    public int of(int one, int what) {
        if (noOne(one)) {
            return refuse(BEYOND);
        }
        One asked = present.people[one];
        switch (what) {
            case 0:
                return asked.kind;
            case 1:
                return asked.bank;
            case 2:
                return asked.purse;
            case 3:
                return asked.goes;
            case 4:
                return asked.comes;
            case 5:
                return asked.crossed;
            case 6:
                return asked.knows;
            default:
                return refuse(BEYOND);
        }
    }

    public int set(int one, int what, int v) {
        if (noOne(one) || !maySet(what, v)) {
            return refuse(BEYOND);
        }
        One changed = present.people[one];
        int was;
        switch (what) {
            case 1:
                was = changed.bank;
                changed.bank = v;
                return was;
            case 2:
                was = changed.purse;
                changed.purse = v;
                return was;
            case 3:
                was = changed.goes;
                changed.goes = v;
                return was;
            case 4:
                was = changed.comes;
                changed.comes = v;
                return was;
            default:
                was = changed.knows;
                changed.knows = v;
                return was;
        }
    }

    public int turn(int one, int kind) {
        if (noOne(one) || outside(kind, PERSON, LAST_KIND)) {
            return refuse(BEYOND);
        }
        int was = present.people[one].kind;
        present.people[one].kind = kind;
        return was;
    }

    public int as(int one, int kind) {
        if (noOne(one) || outside(kind, PERSON, LAST_KIND)) {
            return refuse(BEYOND);
        }
        if (!Kinds.isUnder(present.people[one].kind, kind)) {
            return refuse(KIND);
        }
        return present.people[one].purse;
    }

    public int gains(int one, int worth, int known) {
        if (noOne(one) || outside(worth, -MOST_WORTH, MOST_WORTH) || outside(known, 0, 1)) {
            return refuse(BEYOND);
        }
        return Kinds.gain(present.people[one].kind, worth, known == 1);
    }

    public int cross(int one) {
        if (noOne(one)) {
            return refuse(BEYOND);
        }
        One walker = present.people[one];
        if (!walker.canPay(present.toll)) {
            return refuse(STATE);
        }
        walker.goOver(present.toll);
        return walker.bank;
    }

    public int tells(int one, int other) {
        if (noOne(one) || noOne(other) || one == other) {
            return refuse(BEYOND);
        }
        One speaker = present.people[one];
        One hearer = present.people[other];
        if (speaker.bank != hearer.bank) {
            return refuse(STATE);
        }
        int fresh = speaker.knows & ~hearer.knows;
        hearer.knows |= fresh;
        return Integer.bitCount(fresh);
    }

    // ---- hours

    public int hours(int n) {
        if (outside(n, 1, MOST_HOURS)) {
            return refuse(BEYOND);
        }
        if (present.hour + n > LAST_HOUR) {
            return refuse(STATE);
        }
        present.passHours(n);
        return present.allPurses();
    }

    public int now(int what) {
        switch (what) {
            case 0:
                return present.hour;
            case 1:
                return present.hour % DAY;
            case 2:
                return present.allPurses();
            case 3:
                return present.allCrossed();
            case 4:
                return present.thoseOnLeft();
            case 5:
                return present.metEvents();
            default:
                return refuse(BEYOND);
        }
    }

    public int on(int one, int n, int what) {
        if (noOne(one) || outside(n, 0, MOST_HOURS) || outside(what, 0, 3)) {
            return refuse(BEYOND);
        }
        startTrial();
        trial.passHours(n);
        One then = trial.people[one];
        switch (what) {
            case 0:
                return then.purse;
            case 1:
                return then.bank;
            case 2:
                return then.crossed;
            default:
                return then.knows;
        }
    }

    public int learns(int one, int event) {
        if (noOne(one) || noEvent(event)) {
            return refuse(BEYOND);
        }
        startTrial();
        for (int passed = 0; passed <= MOST_HOURS; passed++) {
            if (trial.people[one].hasHeard(event)) {
                return passed;
            }
            trial.passHour();
        }
        return refuse(NONE);
    }

    public int first(int event) {
        if (noEvent(event)) {
            return refuse(BEYOND);
        }
        startTrial();
        for (int passed = 0; passed <= MOST_HOURS; passed++) {
            int knowing = trial.thoseWhoKnow(event);
            if (knowing != 0) {
                return Integer.numberOfTrailingZeros(knowing);
            }
            trial.passHour();
        }
        return refuse(NONE);
    }

    public int met(int n) {
        if (outside(n, 0, MOST_HOURS)) {
            return refuse(BEYOND);
        }
        startTrial();
        trial.passHours(n);
        return trial.metEvents();
    }

    public int broke(int one) {
        if (noOne(one)) {
            return refuse(BEYOND);
        }
        startTrial();
        for (int passed = 0; passed <= MOST_HOURS; passed++) {
            if (!trial.people[one].canPay(trial.toll)) {
                return passed;
            }
            trial.passHour();
        }
        return refuse(NONE);
    }

    // ---- clocks, tolls

    public int clocks(int one, int n) {
        if (noOne(one) || outside(n, 0, MOST_PLANNED_HOURS)) {
            return refuse(BEYOND);
        }
        seekClocks(one, n);
        return best.choice;
    }

    public int rich(int one, int n) {
        if (noOne(one) || outside(n, 0, MOST_PLANNED_HOURS)) {
            return refuse(BEYOND);
        }
        seekClocks(one, n);
        return best.amount;
    }

    public int bears(int v, int n) {
        if (outside(v, 0, MOST_SOUGHT) || outside(n, 0, MOST_PLANNED_HOURS)) {
            return refuse(BEYOND);
        }
        // A higher toll may keep people where they gain more, so every toll is tried from the top.
        for (int toll = MOST_TOLL; toll >= 0; toll--) {
            startTrial();
            trial.toll = toll;
            trial.passHours(n);
            if (trial.allPurses() >= v) {
                return toll;
            }
        }
        return refuse(NONE);
    }

    public int bank(int one, int n) {
        if (noOne(one) || outside(n, 0, MOST_HOURS)) {
            return refuse(BEYOND);
        }
        best.begin(-1);
        for (int bank = RIGHT; bank <= LEFT; bank++) {
            startTrial();
            trial.people[one].bank = bank;
            best.offer(bank, purseInTrial(one, n));
        }
        return best.choice;
    }

    public int kind(int one, int n) {
        if (noOne(one) || outside(n, 0, MOST_HOURS)) {
            return refuse(BEYOND);
        }
        best.begin(-1);
        for (int kind = PERSON; kind <= LAST_KIND; kind++) {
            startTrial();
            trial.people[one].kind = kind;
            best.offer(kind, purseInTrial(one, n));
        }
        return best.choice;
    }

    public int news(int one, int n) {
        if (noOne(one) || outside(n, 0, MOST_HOURS)) {
            return refuse(BEYOND);
        }
        startTrial();
        best.begin(purseInTrial(one, n));
        for (int event = 0; event < present.eventCount; event++) {
            if (!present.people[one].hasHeard(event)) {
                startTrial();
                trial.people[one].hear(1 << event);
                best.offer(event, purseInTrial(one, n));
            }
        }
        return best.choice == NONE ? refuse(NONE) : best.choice;
    }

    public int needed(int n) {
        if (outside(n, 0, MOST_HOURS)) {
            return refuse(BEYOND);
        }
        startTrial();
        best.begin(-metInTrial(n));
        for (int one = 0; one < present.peopleCount; one++) {
            startTrial();
            trial.sendAway(one);
            best.offer(one, -metInTrial(n));
        }
        return best.choice == NONE ? refuse(NONE) : best.choice;
    }

    public int sum(int event, int n) {
        if (noEvent(event) || outside(n, 0, MOST_HOURS)) {
            return refuse(BEYOND);
        }
        startTrial();
        trial.passHours(n);
        int asItIs = trial.allPurses();
        startTrial();
        trial.events[event].worth = 0;
        trial.passHours(n);
        return asItIs - trial.allPurses();
    }

    // ---- the text

    public int feed(int bytes, int n) {
        if (outside(n, 1, MOST_FED)) {
            return refuse(BEYOND);
        }
        if (text.length + n > MOST_BYTES) {
            return refuse(FULL);
        }
        for (int left = n - 1; left >= 0; left--) {
            text.append(bytes >>> (8 * left));
        }
        return text.length;
    }

    public int wipe() {
        int had = text.length;
        text.length = 0;
        return had;
    }

    public int river() {
        // The items come to the trial first: with a fault, nothing of the present has changed.
        startTrial();
        int answer = text.parse(trial);
        text.length = 0;
        if (answer >= 0) {
            present.become(trial);
        }
        return answer;
    }

    // ---- sheets

    public int sheet(int s, int bits, int n) {
        if (noSheet(s) || (bits != 0 && bits != 8 && bits != 16 && bits != 64)) {
            return refuse(BEYOND);
        }
        if (n < 0) {
            return refuse(SIZE);
        }
        if (n > MOST_NUMBERS) {
            return refuse(BEYOND);
        }
        sheets[s].begin(bits, n);
        return sheets[s].length;
    }

    public long write(int s, int i, long v) {
        int finding = findingOf(s);
        if (finding != 0) {
            return refuse(finding);
        }
        if (outside(i, 0, sheets[s].length - 1)) {
            return refuse(BEYOND);
        }
        long was = sheets[s].numbers[i];
        sheets[s].put(i, v);
        return was;
    }

    public int copy(int s, int from, int t, int to, int n) {
        if (noSheet(s) || noSheet(t)) {
            return refuse(BEYOND);
        }
        if (sheets[s].isMissing() || sheets[t].isMissing()) {
            return refuse(MISSING);
        }
        if (sheets[s].bits != sheets[t].bits) {
            return refuse(KIND);
        }
        if (!sheets[s].holds(from, n) || !sheets[t].holds(to, n)) {
            return refuse(BEYOND);
        }
        System.arraycopy(sheets[s].numbers, from, sheets[t].numbers, to, n);
        return n;
    }

    public int lays(int s) {
        int finding = findingOf(s);
        if (finding != 0) {
            return refuse(finding);
        }
        int came = 0;
        int pairs = Math.min(sheets[s].length, present.peopleCount);
        for (int i = 0; i < pairs; i++) {
            long number = sheets[s].numbers[i];
            if (number >= 0 && number <= MOST_PURSE) {
                present.people[i].purse = (int) number;
                came++;
            }
        }
        return came;
    }

    public int book(int s, int one) {
        int finding = findingOf(s);
        if (finding != 0) {
            return refuse(finding);
        }
        if (noOne(one)) {
            return refuse(BEYOND);
        }
        startTrial();
        for (int i = 0; i < sheets[s].length; i++) {
            sheets[s].put(i, trial.people[one].purse);
            trial.passHour();
        }
        return sheets[s].length;
    }

    public int read(int s, int one) {
        int finding = findingOf(s);
        if (finding != 0) {
            return refuse(finding);
        }
        if (noOne(one)) {
            return refuse(BEYOND);
        }
        int pairs = 0;
        for (int goes = NEVER; goes <= LAST_CLOCK; goes++) {
            for (int comes = NEVER; comes <= LAST_CLOCK; comes++) {
                startTrialByClocks(one, goes, comes);
                if (trialFits(sheets[s], one)) {
                    pairs++;
                }
            }
        }
        return pairs;
    }

    // ---- images

    public int image() {
        kept.become(present);
        keeps = true;
        return 1;
    }

    public int undo() {
        if (!keeps) {
            return refuse(NONE);
        }
        present.become(kept);
        return present.peopleCount;
    }

    public int tear() {
        int torn = keeps ? 1 : 0;
        keeps = false;
        return torn;
    }

    public int count(int what) {
        switch (what) {
            case 0:
                return present.peopleCount;
            case 1:
                return present.eventCount;
            case 2:
                return text.length;
            case 3:
                return present.allKnown();
            default:
                return refuse(BEYOND);
        }
    }

    public int status(int which) {
        if (outside(which, -1, FINDINGS - 1)) {
            return refuse(BEYOND);
        }
        if (which >= 0) {
            return told[which];
        }
        int all = 0;
        for (int f = 0; f < FINDINGS; f++) {
            all += told[f];
        }
        return all;
    }

    // ---- what the calls share

    private int refuse(int finding) {
        int row = BEYOND - finding;
        if (row >= 0 && row < FINDINGS) {
            told[row]++;
        }
        return finding;
    }

    private static boolean outside(int v, int least, int most) {
        return v < least || v > most;
    }

    private boolean noOne(int one) {
        return outside(one, 0, present.peopleCount - 1);
    }

    private boolean noEvent(int event) {
        return outside(event, 0, present.eventCount - 1);
    }

    private static boolean noSheet(int s) {
        return outside(s, 0, SHEETS - 1);
    }

    private int findingOf(int s) {
        if (noSheet(s)) {
            return BEYOND;
        }
        return sheets[s].isMissing() ? MISSING : 0;
    }

    private boolean maySet(int what, int v) {
        switch (what) {
            case 1:
                return !outside(v, RIGHT, LEFT);
            case 2:
                return !outside(v, 0, MOST_PURSE);
            case 3:
            case 4:
                return !outside(v, NEVER, LAST_CLOCK);
            case 6:
                return !outside(v, 0, (1 << present.eventCount) - 1);
            default:
                return false;
        }
    }

    private void startTrial() {
        trial.become(present);
    }

    private void startTrialByClocks(int one, int goes, int comes) {
        startTrial();
        trial.people[one].goes = goes;
        trial.people[one].comes = comes;
    }

    private int purseInTrial(int one, int n) {
        trial.passHours(n);
        return trial.people[one].purse;
    }

    private int metInTrial(int n) {
        trial.passHours(n);
        return Integer.bitCount(trial.metEvents());
    }

    private void seekClocks(int one, int n) {
        best.begin(-1);
        for (int goes = 0; goes <= LAST_CLOCK; goes++) {
            for (int comes = 0; comes <= LAST_CLOCK; comes++) {
                startTrialByClocks(one, goes, comes);
                trial.passHours(n);
                best.offer(DAY * goes + comes, trial.people[one].purse);
            }
        }
    }

    private boolean trialFits(Sheet sheet, int one) {
        for (int i = 0; i < sheet.length; i++) {
            if (sheet.numbers[i] != trial.people[one].purse) {
                return false;
            }
            trial.passHour();
        }
        return true;
    }

    /** What the kinds are under, and what each gains. */
    private static final class Kinds {
        private static final int[] ABOVE = {-1, PERSON, PERSON, PERSON, TELLER, DEBTOR};

        static boolean isUnder(int kind, int sought) {
            int at = kind;
            for (int level = 0; level <= LAST_KIND && at >= 0; level++) {
                if (at == sought) {
                    return true;
                }
                at = ABOVE[at];
            }
            return false;
        }

        static int gain(int kind, int worth, boolean known) {
            int asPerson = worth;
            int asDebtor = worth / 2;
            int asBaker = worth + worth / 2;
            int asLover = asDebtor + 3;
            if (known) {
                asPerson = worth > 0 ? 2 * worth : 0;
                asDebtor = asPerson - 1;
                asBaker = asPerson;
                asLover = asDebtor + 10;
            }
            switch (kind) {
                case BAKER:
                    return asBaker;
                case DEBTOR:
                    return asDebtor;
                case LOVER:
                    return asLover;
                default:
                    return asPerson;
            }
        }
    }

    /** An event. */
    private static final class Event {
        private int hour;
        private int worth;
        private boolean met;

        void begin(int itsHour, int itsWorth) {
            hour = itsHour;
            worth = itsWorth;
            met = false;
        }

        void become(Event other) {
            hour = other.hour;
            worth = other.worth;
            met = other.met;
        }

        int hoursToRight(int theHour) {
            return Math.max(hour - theHour, -1);
        }

        int hoursToLeft(int theHour) {
            return met ? -1 : Math.max(hour + DAY - theHour, -1);
        }

        boolean canBeMet(int theHour) {
            return worth < 0 && hour + DAY >= theHour;
        }
    }

    /** One of the people. */
    private static final class One {
        private int kind;
        private int bank;
        private int purse;
        private int goes;
        private int comes;
        private int crossed;
        private int knows;

        void begin(int itsKind, int itsBank) {
            kind = itsKind;
            bank = itsBank;
            purse = FIRST_PURSE;
            goes = NEVER;
            comes = NEVER;
            crossed = 0;
            knows = 0;
        }

        void become(One other) {
            kind = other.kind;
            bank = other.bank;
            purse = other.purse;
            goes = other.goes;
            comes = other.comes;
            crossed = other.crossed;
            knows = other.knows;
        }

        boolean wantsOver(int clock) {
            return (bank == RIGHT ? goes : comes) == clock;
        }

        boolean canPay(int toll) {
            return purse >= toll;
        }

        void goOver(int toll) {
            purse -= toll;
            bank = bank == RIGHT ? LEFT : RIGHT;
            crossed++;
        }

        boolean hasHeard(int event) {
            return (knows >> event & 1) != 0;
        }

        void hear(int heard) {
            knows |= heard;
        }

        boolean isTeller() {
            return kind == TELLER || kind == FIREMAN;
        }

        void live(int event, int worth) {
            int more = purse + Kinds.gain(kind, worth, hasHeard(event));
            purse = Math.max(0, Math.min(MOST_PURSE, more));
            hear(1 << event);
        }
    }

    /** All that section 1 of the document tells, but for the tape. */
    private static final class River {
        private int hour;
        private int toll;
        private int peopleCount;
        private int eventCount;
        private final One[] people;
        private final Event[] events;

        River() {
            hour = 0;
            toll = FIRST_TOLL;
            peopleCount = 0;
            eventCount = 0;
            people = new One[MOST_PEOPLE];
            for (int i = 0; i < MOST_PEOPLE; i++) {
                people[i] = new One();
            }
            events = new Event[MOST_EVENTS];
            for (int e = 0; e < MOST_EVENTS; e++) {
                events[e] = new Event();
            }
        }

        void become(River other) {
            hour = other.hour;
            toll = other.toll;
            peopleCount = other.peopleCount;
            eventCount = other.eventCount;
            for (int i = 0; i < peopleCount; i++) {
                people[i].become(other.people[i]);
            }
            for (int e = 0; e < eventCount; e++) {
                events[e].become(other.events[e]);
            }
        }

        boolean hasAllPeople() {
            return peopleCount >= MOST_PEOPLE;
        }

        boolean hasAllEvents() {
            return eventCount >= MOST_EVENTS;
        }

        int addOne(int kind, int bank) {
            people[peopleCount].begin(kind, bank);
            peopleCount++;
            return peopleCount - 1;
        }

        int addEvent(int itsHour, int itsWorth) {
            events[eventCount].begin(itsHour, itsWorth);
            eventCount++;
            return eventCount - 1;
        }

        void sendAway(int gone) {
            for (int i = gone; i < peopleCount - 1; i++) {
                people[i].become(people[i + 1]);
            }
            peopleCount--;
        }

        void passHours(int n) {
            for (int passed = 0; passed < n; passed++) {
                passHour();
            }
        }

        void passHour() {
            letCross(hour % DAY);
            spread(RIGHT);
            spread(LEFT);
            meet();
            for (int e = 0; e < eventCount; e++) {
                if (events[e].hour == hour) {
                    befall(e, RIGHT);
                } else if (events[e].hour + DAY == hour && !events[e].met) {
                    befall(e, LEFT);
                }
            }
            hour++;
        }

        private void letCross(int clock) {
            for (int i = 0; i < peopleCount; i++) {
                if (people[i].wantsOver(clock) && people[i].canPay(toll)) {
                    people[i].goOver(toll);
                }
            }
        }

        /**
         * Tellers hear one another, and what any of them knows all on the bank know in the end:
         * so the tellers' knowledge is put together first, and told once.
         */
        private void spread(int bank) {
            int heard = 0;
            for (int i = 0; i < peopleCount; i++) {
                if (people[i].bank == bank && people[i].isTeller()) {
                    heard |= people[i].knows;
                }
            }
            if (heard == 0) {
                return;
            }
            for (int i = 0; i < peopleCount; i++) {
                if (people[i].bank == bank) {
                    people[i].hear(heard);
                }
            }
        }

        private void meet() {
            for (int i = 0; i < peopleCount; i++) {
                if (people[i].kind == FIREMAN && people[i].bank == LEFT) {
                    meetWhatIsKnownTo(people[i]);
                }
            }
        }

        private void meetWhatIsKnownTo(One fireman) {
            for (int e = 0; e < eventCount; e++) {
                if (fireman.hasHeard(e) && events[e].canBeMet(hour)) {
                    events[e].met = true;
                }
            }
        }

        private void befall(int event, int bank) {
            for (int i = 0; i < peopleCount; i++) {
                if (people[i].bank == bank) {
                    people[i].live(event, events[event].worth);
                }
            }
        }

        int allPurses() {
            int all = 0;
            for (int i = 0; i < peopleCount; i++) {
                all += people[i].purse;
            }
            return all;
        }

        int allCrossed() {
            int all = 0;
            for (int i = 0; i < peopleCount; i++) {
                all += people[i].crossed;
            }
            return all;
        }

        int allKnown() {
            int all = 0;
            for (int i = 0; i < peopleCount; i++) {
                all += Integer.bitCount(people[i].knows);
            }
            return all;
        }

        int thoseOnLeft() {
            int those = 0;
            for (int i = 0; i < peopleCount; i++) {
                if (people[i].bank == LEFT) {
                    those |= 1 << i;
                }
            }
            return those;
        }

        int thoseWhoKnow(int event) {
            int those = 0;
            for (int i = 0; i < peopleCount; i++) {
                if (people[i].hasHeard(event)) {
                    those |= 1 << i;
                }
            }
            return those;
        }

        int metEvents() {
            int those = 0;
            for (int e = 0; e < eventCount; e++) {
                if (events[e].met) {
                    those |= 1 << e;
                }
            }
            return those;
        }
    }

    /** The first of the choices that bring the most, if they bring more than a floor. */
    private static final class Best {
        private int choice;
        private int amount;

        void begin(int floor) {
            choice = NONE;
            amount = floor;
        }

        void offer(int offered, int brings) {
            if (brings > amount) {
                choice = offered;
                amount = brings;
            }
        }
    }

    /** A sheet: its numbers are held with their sign, cut to its bits. */
    private static final class Sheet {
        private int bits;
        private int length;
        private final long[] numbers;

        Sheet() {
            bits = 0;
            length = 0;
            numbers = new long[MOST_NUMBERS];
        }

        void begin(int itsBits, int itsLength) {
            bits = itsBits;
            length = itsBits == 0 ? 0 : itsLength;
            for (int i = 0; i < MOST_NUMBERS; i++) {
                numbers[i] = 0;
            }
        }

        boolean isMissing() {
            return bits == 0;
        }

        boolean holds(int from, int n) {
            return from >= 0 && n >= 0 && n <= length && from <= length - n;
        }

        void put(int i, long v) {
            switch (bits) {
                case 8:
                    numbers[i] = (byte) v;
                    break;
                case 16:
                    numbers[i] = (short) v;
                    break;
                default:
                    numbers[i] = v;
                    break;
            }
        }
    }

    /**
     * The tape, and how it is read as the text of a river, token by token.
     * Where a part can't be read, the token at hand is the one that can't stand there.
     */
    private static final class Text {
        private static final int END = 0;
        private static final int WORD = 1;
        private static final int NUMBER = 2;
        private static final int SIGN = 3;
        private static final int STRANGE = 4;
        private static final int MOST_NUMBER = 9999;

        private final int[] bytes;
        private int length;
        private int token;
        private int place;
        private int behind;
        private int value;
        private int taken;

        Text() {
            bytes = new int[MOST_BYTES];
            length = 0;
        }

        void append(int b) {
            if (length < MOST_BYTES) {
                bytes[length] = b & 255;
                length++;
            }
        }

        /** Reads the tape into a river: how many items, or -1 less the place of the fault. */
        int parse(River into) {
            behind = 0;
            step();
            for (int items = 1; items <= MOST_BYTES; items++) {
                if (!parseItem(into)) {
                    break;
                }
                if (token == END) {
                    return items;
                }
                if (token != SIGN) {
                    break;
                }
                step();
            }
            return -1 - place;
        }

        private boolean parseItem(River into) {
            if (takes("toll")) {
                return parseToll(into);
            }
            // A ninth can't stand: its own name is the fault then, so the name is not passed yet.
            if (isWord("event")) {
                return parseEvent(into);
            }
            for (int kind = PERSON; kind <= LAST_KIND; kind++) {
                if (isWord(nameOf(kind))) {
                    return parseOne(into, kind);
                }
            }
            return false;
        }

        private boolean parseToll(River into) {
            if (!takesNumber(MOST_TOLL)) {
                return false;
            }
            into.toll = taken;
            return true;
        }

        private boolean parseEvent(River into) {
            if (into.hasAllEvents()) {
                return false;
            }
            step();
            if (!takesNumber(LAST_HOUR)) {
                return false;
            }
            int hour = taken;
            if (!takes("worth")) {
                return false;
            }
            boolean less = takes("less");
            if (!takesNumber(MOST_WORTH)) {
                return false;
            }
            into.addEvent(hour, less ? -taken : taken);
            return true;
        }

        private boolean parseOne(River into, int kind) {
            if (into.hasAllPeople()) {
                return false;
            }
            step();
            int number = into.addOne(kind, takes("left") ? LEFT : RIGHT);
            One one = into.people[number];
            if (takes("purse")) {
                if (!takesNumber(MOST_PURSE)) {
                    return false;
                }
                one.purse = taken;
            }
            if (takes("goes")) {
                if (!takesNumber(LAST_CLOCK)) {
                    return false;
                }
                one.goes = taken;
            }
            if (takes("comes")) {
                if (!takesNumber(LAST_CLOCK)) {
                    return false;
                }
                one.comes = taken;
            }
            return true;
        }

        private static String nameOf(int kind) {
            switch (kind) {
                case BAKER:
                    return "baker";
                case DEBTOR:
                    return "debtor";
                case TELLER:
                    return "teller";
                case FIREMAN:
                    return "fireman";
                case LOVER:
                    return "lover";
                default:
                    return "person";
            }
        }

        private boolean takes(String word) {
            if (!isWord(word)) {
                return false;
            }
            step();
            return true;
        }

        private boolean isWord(String word) {
            if (token != WORD || behind - place != word.length()) {
                return false;
            }
            for (int i = 0; i < word.length(); i++) {
                if (bytes[place + i] != word.charAt(i)) {
                    return false;
                }
            }
            return true;
        }

        private boolean takesNumber(int most) {
            if (token != NUMBER || value > most) {
                return false;
            }
            taken = value;
            step();
            return true;
        }

        private void step() {
            place = behind;
            while (place < length && bytes[place] == ' ') {
                place++;
            }
            behind = place;
            if (place >= length) {
                token = END;
            } else if (isLetter(bytes[place])) {
                token = WORD;
                while (behind < length && isLetter(bytes[behind])) {
                    behind++;
                }
            } else if (isDigit(bytes[place])) {
                token = NUMBER;
                value = 0;
                while (behind < length && isDigit(bytes[behind])) {
                    // One above the greatest that may be is enough: a long row of digits must not wrap around.
                    value = Math.min(10 * value + bytes[behind] - '0', MOST_NUMBER + 1);
                    behind++;
                }
            } else {
                token = bytes[place] == ';' ? SIGN : STRANGE;
                behind = place + 1;
            }
        }

        private static boolean isLetter(int b) {
            return b >= 'a' && b <= 'z';
        }

        private static boolean isDigit(int b) {
            return b >= '0' && b <= '9';
        }
    }
}
