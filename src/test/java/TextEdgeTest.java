import java.util.function.Supplier;

/** THE TEXT of a RIVER: each sentence that says what can stand, what can't, and where the FAULT is. */
public final class TextEdgeTest {
    private static final String[] KINDS = {"person", "baker", "debtor", "teller", "fireman", "lover"};
    private static final Due due = new Due();

    public static void main(String[] args) {
        tapeOfNothing();
        wordsAreLettersAToZ();
        tokensAreAsLongAsCanBe();
        numbersAreDigits();
        numbersAreAtMost9999();
        signs();
        blanksMayStandBetween();
        bytesThatBeginNoToken();
        itemsAreParted();
        namesOfKinds();
        leftElseOnTheRight();
        purse();
        goes();
        comes();
        inThisOrderEachOnce();
        eventHour();
        eventWorth();
        eventLess();
        tollItem();
        wordsWhereTheyCantStand();
        endsTooEarly();
        firstFaultCounts();
        ninthOne();
        ninthEvent();
        eighthIsTaken();
        itemsComeToWhatThereIs();
        tapeIsEmptyThen();
        wholeTape();
        noFindingForAFault();
        due.part("TextEdgeTest");
        due.end();
    }

    // ---- how a text is asked

    private static int riverOf(DayBehind x, String tape) {
        x.wipe();
        Due.feed(x, tape);
        return x.river();
    }

    private static void stands(String tape, int items) {
        DayBehind x = new DayBehind();
        due.is("'" + tape + "'", riverOf(x, tape), items);
        due.is("'" + tape + "', then the tape", x.count(2), 0);
    }

    private static void fault(String tape, int place) {
        fault(Scene::lively, tape, place);
    }

    /** The FAULT is there, no finding is told, and nothing changes but that THE TAPE is empty. */
    private static void fault(Supplier<DayBehind> make, String tape, int place) {
        DayBehind x = make.get();
        int told = x.status(-1);
        due.is("'" + tape + "'", riverOf(x, tape), -1 - place);
        due.is("'" + tape + "', then the tape", x.count(2), 0);
        due.is("'" + tape + "', then status(-1)", x.status(-1), told);
        DayBehind y = make.get();
        y.wipe();
        due.holds("'" + tape + "' changes nothing but the tape", Scene.telling(x).equals(Scene.telling(y)));
    }

    private static int tollAfter(String tape) {
        DayBehind x = new DayBehind();
        riverOf(x, tape);
        return x.toll(0);
    }

    private static int ofAfter(String tape, int what) {
        DayBehind x = new DayBehind();
        riverOf(x, tape);
        return x.of(0, what);
    }

    private static int eventAfter(String tape, int what) {
        DayBehind x = new DayBehind();
        riverOf(x, tape);
        return x.eventOf(0, what);
    }

    // ---- tokens

    private static void tapeOfNothing() {
        due.part("TEXT: ITEM { ; ITEM }: at least one");
        fault("", 0);
        fault(DayBehind::new, "", 0);
        fault(" ", 1);
    }

    private static void wordsAreLettersAToZ() {
        due.part("WORDS (letters a to z)");
        fault("Person", 0);
        fault("PERSON", 0);
        fault("personA", 6);
        fault("personZ", 6);
        fault("person`", 6);
        fault("person{", 6);
        fault("persona", 0);
        fault("personz", 0);
        fault("person left`", 11);
        fault("person left{", 11);
        fault("person leftz", 7);
        fault("toll 5a", 6);
        fault("toll 5z", 6);
    }

    private static void tokensAreAsLongAsCanBe() {
        due.part("TOKENS, each as long as can be");
        stands("toll5;toll6", 2);
        stands("event5worth6", 1);
        stands("event5worth less6", 1);
        stands("person purse5goes6comes7", 1);
        fault("personleft", 0);
        fault("person leftpurse 5", 7);
        fault("event 5 worthless 6", 8);
        fault("tol l 5", 0);
        fault("perso n", 0);
        fault("toll 1 2", 7);
        fault("toll 5toll 6", 6);
        fault("person purse 1 0", 15);
        due.is("one NUMBER of all the digits", tollAfter("toll 12"), 12);
        fault("toll 123", 5);
    }

    private static void numbersAreDigits() {
        due.part("NUMBERS (digits)");
        due.is("the first digit", tollAfter("toll 0"), 0);
        due.is("the last digit", tollAfter("toll 9"), 9);
        due.is("both", tollAfter("toll 90"), 90);
        fault("toll /", 5);
        fault("toll :", 5);
        fault("toll 0/", 6);
        fault("toll 9:", 6);
        fault("toll -1", 5);
        fault("toll +1", 5);
        fault("toll 1.5", 6);
        due.is("noughts ahead", tollAfter("toll 007"), 7);
    }

    private static void numbersAreAtMost9999() {
        due.part("NUMBERS (9999 at most)");
        due.is("9999", eventAfter("event 9999 worth 1", 0), 9999);
        due.is("9999, noughts ahead", eventAfter("event 00009999 worth 1", 0), 9999);
        fault("event 10000 worth 1", 6);
        fault("event 010000 worth 1", 6);
        fault("event 99990 worth 1", 6);
        due.part("NUMBERS (9999 at most): digits that would wrap around");
        fault("event 65537 worth 1", 6);
        fault("event 2147483648 worth 1", 6);
        fault("event 4294967296 worth 1", 6);
        fault("event 4294967301 worth 1", 6);
        fault("event 42949672960 worth 1", 6);
        fault("event 9223372036854775808 worth 1", 6);
        fault("event 18446744073709551617 worth 1", 6);
        fault("event " + "9".repeat(106) + " worth 1", 6);
        fault("toll 1" + "0".repeat(100), 5);
    }

    private static void signs() {
        due.part("SIGN ;");
        stands("toll 1;toll 2", 2);
        fault("toll 1:toll 2", 6);
        fault("toll 1,toll 2", 6);
        fault("toll 1;;toll 2", 7);
        fault("toll ;", 5);
    }

    private static void blanksMayStandBetween() {
        due.part("blanks may stand between");
        stands(" toll 1", 1);
        stands("toll 1 ", 1);
        stands("   toll   1   ;   toll   2   ", 2);
        stands("toll1;toll2", 2);
        due.is("they are no part of a token", tollAfter("  toll   42  "), 42);
        fault("to ll 1", 0);
        fault("toll 1  x", 8);
    }

    private static void bytesThatBeginNoToken() {
        due.part("a byte that begins no TOKEN");
        int[] strange = {0, 1, 9, 10, 13, 31, '!', '"', '-', '/', ':', '<', '@', 'A', 'Z', '[', '`', '{', 127, 128, 160,
            186, 187, 225, 255};
        for (int b : strange) {
            fault(DayBehind::new, "" + (char) b, 0);
            fault(DayBehind::new, "toll" + (char) b + "5", 4);
            fault(DayBehind::new, "toll 5 " + (char) b, 7);
        }
        fault("person #", 7);
        fault("person;#", 7);
        fault("event 5 worth #", 14);
    }

    // ---- items

    private static void itemsAreParted() {
        due.part("TEXT: ITEM { ; ITEM }");
        fault(";", 0);
        fault(" ;", 1);
        fault(";toll 1", 0);
        fault("toll 1;", 7);
        fault("toll 1; ", 8);
        fault("toll 1 toll 2", 7);
        fault("person person", 7);
        fault("person toll 5", 7);
        fault("person event 5 worth 5", 7);
        fault("event 5 worth 5 event 6 worth 6", 16);
        fault("toll 5 person", 7);
    }

    private static void namesOfKinds() {
        due.part("the name of a KIND (person baker debtor teller fireman lover)");
        for (int kind = 0; kind < KINDS.length; kind++) {
            stands(KINDS[kind], 1);
            due.is(KINDS[kind], ofAfter(KINDS[kind], 0), kind);
            fault(KINDS[kind].substring(0, KINDS[kind].length() - 1), 0);
            fault(KINDS[kind].substring(1), 0);
            fault("x" + KINDS[kind].substring(1), 0);
            fault(KINDS[kind] + "s", 0);
        }
        fault("human", 0);
        fault("0", 0);
    }

    private static void leftElseOnTheRight() {
        due.part("perhaps left (else on the RIGHT)");
        due.is("left", ofAfter("lover left", 1), 1);
        due.is("else", ofAfter("lover", 1), 0);
        due.is("else, with all the rest", ofAfter("lover purse 1 goes 1 comes 1", 1), 0);
        fault("lover right", 6);
        fault("lover lef", 6);
        fault("lover lefts", 6);
        fault("lover left left", 11);
        fault("left lover", 0);
    }

    private static void purse() {
        due.part("perhaps purse and a NUMBER (0 to 9999)");
        due.is("else", ofAfter("baker", 2), 50);
        due.is("the least", ofAfter("baker purse 0", 2), 0);
        due.is("the most", ofAfter("baker purse 9999", 2), 9999);
        fault("baker purse 10000", 12);
        fault("baker left purse 10000", 17);
        fault("baker purse less 1", 12);
        fault("baker purse goes 1", 12);
        fault("baker purse 1 purse 1", 14);
    }

    private static void goes() {
        due.part("perhaps goes and a NUMBER (0 to 23)");
        due.is("else", ofAfter("baker", 3), -1);
        due.is("the least", ofAfter("baker goes 0", 3), 0);
        due.is("the most", ofAfter("baker goes 23", 3), 23);
        fault("baker goes 24", 11);
        fault("baker goes 9999", 11);
        fault("baker goes 10000", 11);
        fault("baker goes comes 1", 11);
        fault("baker goes 1 goes 1", 13);
    }

    private static void comes() {
        due.part("perhaps comes and a NUMBER (0 to 23)");
        due.is("else", ofAfter("baker", 4), -1);
        due.is("the least", ofAfter("baker comes 0", 4), 0);
        due.is("the most", ofAfter("baker comes 23", 4), 23);
        fault("baker comes 24", 12);
        fault("baker comes 9999", 12);
        fault("baker comes 10000", 12);
        fault("baker comes 1 comes 1", 14);
        fault("baker comes 1 1", 14);
    }

    private static void inThisOrderEachOnce() {
        due.part("left, purse, goes, comes: in this order");
        DayBehind x = new DayBehind();
        due.is("all of them", riverOf(x, "fireman left purse 9999 goes 23 comes 0"), 1);
        int[] parts = {4, 1, 9999, 23, 0, 0, 0};
        for (int what = 0; what < parts.length; what++) {
            due.is("of(0, " + what + ")", x.of(0, what), parts[what]);
        }
        fault("person purse 1 left", 15);
        fault("person goes 1 left", 14);
        fault("person goes 1 purse 1", 14);
        fault("person comes 1 left", 15);
        fault("person comes 1 purse 1", 15);
        fault("person comes 1 goes 1", 15);
    }

    private static void eventHour() {
        due.part("event, a NUMBER (its HOUR)");
        due.is("the least", eventAfter("event 0 worth 1", 0), 0);
        due.is("the most", eventAfter("event 9999 worth 1", 0), 9999);
        fault("event 10000 worth 1", 6);
        fault("event worth 1", 6);
        fault("event less 1 worth 1", 6);
        fault("event ; toll 5", 6);
        fault("event 1 2 worth 1", 8);
    }

    private static void eventWorth() {
        due.part("worth, a NUMBER (0 to 99)");
        due.is("the least", eventAfter("event 1 worth 0", 1), 0);
        due.is("the most", eventAfter("event 1 worth 99", 1), 99);
        fault("event 1 worth 100", 14);
        fault("event 1 worth 9999", 14);
        fault("event 1 worth worth 1", 14);
        fault("event 1 less 1", 8);
        fault("event 1 ; toll 5", 8);
        fault("event 1 worth 1 1", 16);
        due.is("it is not MET", eventAfter("event 1 worth 1", 2), 0);
    }

    private static void eventLess() {
        due.part("perhaps less (below 0 with less)");
        due.is("the least", eventAfter("event 1 worth less 0", 1), 0);
        due.is("one", eventAfter("event 1 worth less 1", 1), -1);
        due.is("the most", eventAfter("event 1 worth less 99", 1), -99);
        fault("event 1 worth less 100", 19);
        fault("event 1 worth less 9999", 19);
        fault("event 1 worth less less 1", 19);
        fault("event 1 worth more 1", 14);
        fault("event 1 worth 1 less", 16);
    }

    private static void tollItem() {
        due.part("toll and a NUMBER (0 to 99)");
        due.is("the least", tollAfter("toll 0"), 0);
        due.is("the most", tollAfter("toll 99"), 99);
        fault("toll 100", 5);
        fault("toll 9999", 5);
        fault("toll less 1", 5);
        fault("toll toll 1", 5);
        fault("toll 1 left", 7);
        due.is("the last of several", tollAfter("toll 1;toll 2;toll 3"), 3);
    }

    // ---- faults

    private static void wordsWhereTheyCantStand() {
        due.part("FAULT: another WORD");
        String[] inside = {"left", "purse", "goes", "comes", "worth", "less"};
        for (String word : inside) {
            fault(word, 0);
            fault(word + " 5", 0);
            fault("toll 5;" + word, 7);
            fault("toll " + word, 5);
        }
        fault("xeft 5", 0);
        fault("person xeft", 7);
        fault("person xurse 5", 7);
        fault("person xoes 5", 7);
        fault("person xomes 5", 7);
        fault("xvent 5 worth 5", 0);
        fault("event 5 xorth 5", 8);
        fault("event 5 worth xess 5", 14);
        fault("xoll 5", 0);
        fault("person worth 5", 7);
        fault("person less 5", 7);
        fault("event 5 purse 5", 8);
    }

    private static void endsTooEarly() {
        due.part("FAULT: how many bytes there are if it ends too early");
        String[] early = {"", "person purse", "person left purse", "person goes", "person purse 5 goes", "person comes",
            "person goes 5 comes", "event", "event 5", "event 5 worth", "event 5 worth less", "toll", "person;",
            "toll 5;", "event 5 worth 5;"};
        for (String tape : early) {
            fault(tape, tape.length());
            fault(tape + "   ", tape.length() + 3);
            fault(tape + " ".repeat(120 - tape.length()), 120);
            fault("toll 1;" + tape, 7 + tape.length());
        }
    }

    private static void firstFaultCounts() {
        due.part("FAULT: of the first TOKEN that can't stand there");
        fault("toll 100;toll 100", 5);
        fault("toll 5;toll 100;#", 12);
        fault("# toll", 0);
        fault("person goes 24 #", 12);
        fault("person goes 23 #", 15);
        fault("toll 5 # toll 100", 7);
        fault("foo", 0);
        fault("foo 10000", 0);
    }

    private static DayBehind crowd(int people, int events) {
        DayBehind x = new DayBehind();
        for (int i = 0; i < people; i++) {
            x.one(0, 1);
        }
        for (int e = 0; e < events; e++) {
            x.event(5, 5);
        }
        x.image();
        return x;
    }

    private static void ninthOne() {
        due.part("FAULT: the name of a KIND for a 9th: its own");
        for (String kind : KINDS) {
            fault(() -> crowd(8, 0), kind, 0);
            fault(() -> crowd(8, 0), "toll 7; " + kind + " left", 8);
            fault(() -> crowd(7, 0), "person;" + kind, 7);
            fault(() -> crowd(7, 0), "event 1 worth 1;" + kind + ";lover", 17 + kind.length());
            fault(() -> crowd(8, 0), kind + " purse 10000", 0);
        }
        fault(() -> crowd(8, 0), "toll 100;person", 5);
        fault(() -> crowd(8, 0), "persons", 0);
        fault(() -> crowd(0, 0), "person;".repeat(8) + "person", 56);
        fault(() -> crowd(8, 8), "event 5 worth 5;person", 0);
    }

    private static void ninthEvent() {
        due.part("FAULT: event for a 9th: its own");
        fault(() -> crowd(0, 8), "event", 0);
        fault(() -> crowd(0, 8), "event 1 worth 1", 0);
        fault(() -> crowd(0, 8), "event 10000 worth 1", 0);
        fault(() -> crowd(0, 8), "toll 7; event 1 worth 1", 8);
        fault(() -> crowd(0, 7), "event 1 worth 1;event 1 worth 1", 16);
        fault(() -> crowd(0, 7), "event 1 worth 1;person;event", 23);
        fault(() -> crowd(0, 8), "toll 100;event", 5);
        fault(() -> crowd(8, 8), "toll 1;event 1 worth 1", 7);
    }

    private static void eighthIsTaken() {
        due.part("an 8th stands, and other ITEMS where they are full");
        DayBehind x = crowd(7, 7);
        due.is("the 8th of both", riverOf(x, "lover left;event 9 worth less 9"), 2);
        due.is("of(7, 0)", x.of(7, 0), 5);
        due.is("eventOf(7, 0)", x.eventOf(7, 0), 9);
        due.is("toll where both are full", riverOf(x, "toll 9"), 1);
        due.is("event where PEOPLE are full", riverOf(crowd(8, 7), "event 9 worth 9"), 1);
        due.is("person where EVENTS are full", riverOf(crowd(7, 8), "person"), 1);
        DayBehind y = new DayBehind();
        due.is("eight at once", riverOf(y, "person;".repeat(7) + "lover"), 8);
        due.is("how many PEOPLE", y.count(0), 8);
        DayBehind z = new DayBehind();
        due.is("eight EVENTS at once", riverOf(z, "event1worth1;".repeat(7) + "event 2 worth 2"), 8);
        due.is("how many EVENTS", z.count(1), 8);
    }

    // ---- what river() does

    private static void itemsComeToWhatThereIs() {
        due.part("31 river: ITEMS come to what there is");
        DayBehind x = Scene.lively();
        due.is("river", riverOf(x, "lover left;event 77 worth less 7"), 2);
        due.is("how many PEOPLE", x.count(0), Scene.LIVELY_PEOPLE + 1);
        due.is("how many EVENTS", x.count(1), Scene.LIVELY_EVENTS + 1);
        due.is("the new one", x.of(Scene.LIVELY_PEOPLE, 0), 5);
        due.is("the new EVENT", x.eventOf(Scene.LIVELY_EVENTS, 0), 77);
        due.is("TOLL stays", x.toll(0), 6);
        due.is("THE HOUR stays", x.now(0), 12);
        due.is("MET stays", x.now(5), 2);
        due.is("what was kept stays", x.undo(), Scene.LIVELY_PEOPLE);
    }

    private static void tapeIsEmptyThen() {
        due.part("31 river: THE TAPE is empty then");
        DayBehind x = new DayBehind();
        due.is("river", riverOf(x, "toll 7"), 1);
        due.is("how many bytes", x.count(2), 0);
        due.is("river again: nothing", x.river(), -1);
        due.is("feed begins anew", x.feed('x', 1), 1);
        due.is("river with a FAULT", x.river(), -1);
        due.is("how many bytes", x.count(2), 0);
    }

    private static void wholeTape() {
        due.part("THE TAPE (bytes, at most 120)");
        DayBehind x = new DayBehind();
        due.is("a NUMBER up to the last byte", riverOf(x, "toll " + "0".repeat(113) + "77"), 1);
        due.is("TOLL", x.toll(0), 77);
        due.is("as many ITEMS as can be", riverOf(x, "toll1;".repeat(19) + "toll 2"), 20);
        due.is("TOLL", x.toll(0), 2);
        due.is("a FAULT at the last byte", riverOf(x, "toll 1" + " ".repeat(113) + "#"), -1 - 119);
        due.is("a FAULT behind the last byte", riverOf(x, "toll 1" + " ".repeat(113) + ";"), -1 - 120);
        due.is("a WORD up to the last byte", riverOf(x, "toll 1;" + "e".repeat(113)), -1 - 7);
        due.is("blanks alone", riverOf(x, " ".repeat(120)), -1 - 120);
    }

    private static void noFindingForAFault() {
        due.part("31 river: with a FAULT: no finding");
        DayBehind x = new DayBehind();
        for (int i = 0; i < 5; i++) {
            riverOf(x, "#");
            riverOf(x, "");
        }
        for (int which = -1; which < 7; which++) {
            due.is("status(" + which + ")", x.status(which), 0);
        }
    }
}
