/** Counts and prints the calls whose answer is not the one that is due. */
final class Due {
    static final int BEYOND = -1000000001;
    static final int FULL = -1000000002;
    static final int KIND = -1000000003;
    static final int NONE = -1000000004;
    static final int STATE = -1000000005;
    static final int MISSING = -1000000006;
    static final int SIZE = -1000000007;

    private String part = "";
    private int wrong = 0;
    private int asked = 0;

    void part(String name) {
        part = name;
    }

    void is(String call, long got, long want) {
        asked++;
        if (got != want) {
            wrong++;
            System.out.println(part + ": " + call + " answered " + got + ", due is " + want);
        }
    }

    void holds(String what, boolean truth) {
        is(what, truth ? 1 : 0, 1);
    }

    int wrong() {
        return wrong;
    }

    void end() {
        System.out.println(part + ": " + asked + " answers, " + wrong + " not as due");
        if (wrong != 0) {
            System.exit(1);
        }
    }

    /** Four bytes a call, as an object has but 512 calls. */
    static void feed(DayBehind x, String text) {
        for (int i = 0; i < text.length(); i += 4) {
            int n = Math.min(4, text.length() - i);
            int bytes = 0;
            for (int b = 0; b < n; b++) {
                bytes = bytes << 8 | text.charAt(i + b);
            }
            x.feed(bytes, n);
        }
    }

    static int river(DayBehind x, String text) {
        x.wipe();
        feed(x, text);
        return x.river();
    }
}
