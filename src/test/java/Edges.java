/**
 * What the tests of the document's edges share. Each edge is a case by itself, with an object of its own, named by
 * the words of the document that tell it; a wrong answer in one hides no other.
 */
final class Edges {
    static final int NONE = -1, BAD = -2, STATE = -3, FULL = -4, NEVER = -5, NONE_BELOW = -10001;
    static final int NOTHING = -11, CAST = -12, PLACE = -13, SIZE = -14;
    static final long NO = Long.MIN_VALUE;
    static final int LEAST = Integer.MIN_VALUE, MOST = Integer.MAX_VALUE;
    static final int ALL = 65535;
    /** Takes the hour out of every sum, so that v alone turns: 0 up, 1 left, 2 right, 3 down, always. */
    static final String STEADY = "back 1 h=1|h=5|h=9;back 2 h=2|h=6;back 3 h=3|h=7";

    interface Case {
        void asks();
    }

    private static int edges = 0;
    private static int broken = 0;
    private static String words = "";
    private static boolean holds = true;

    private Edges() {
    }

    static void edge(String documentsWords, Case asked) {
        edges++;
        words = documentsWords;
        holds = true;
        try {
            asked.asks();
        } catch (RuntimeException | StackOverflowError thrown) {
            tell("threw " + thrown);
        }
        if (!holds) {
            broken++;
        }
    }

    static void due(String call, long got, long want) {
        if (got != want) {
            tell(call + " answered " + got + ", due is " + want);
        }
    }

    private static void tell(String what) {
        holds = false;
        System.out.println(words + ": " + what);
    }

    /** The last call of each test's main. */
    static void end(String about) {
        System.out.println(broken == 0 ? edges + " edges of " + about + " hold"
            : broken + " of " + edges + " edges of " + about + " are broken");
        if (broken != 0) {
            System.exit(1);
        }
    }

    static int[] outside(int least, int most) {
        return new int[] {least - 1, most + 1, LEAST, MOST};
    }

    static void feed(LostSheets x, String text) {
        for (int i = 0; i < text.length(); i++) {
            x.feed(text.charAt(i));
        }
    }

    static int office(LostSheets x, String text) {
        feed(x, text);
        return x.office();
    }

    /** An object with these drawers, kind, v and cell of each, and this office, if it is not empty. */
    static LostSheets with(String office, int... kindVCell) {
        LostSheets x = new LostSheets();
        for (int i = 0; i + 2 < kindVCell.length; i += 3) {
            due("drawer", x.drawer(kindVCell[i], kindVCell[i + 1], kindVCell[i + 2]), i / 3);
        }
        if (!office.isEmpty()) {
            due("office " + office, office(x, office), 0);
        }
        return x;
    }

    static LostSheets steady(int... kindVCell) {
        return with(STEADY, kindVCell);
    }

    /** Brings one that is at hour 0 to hour 9999, by 167 calls. */
    static void toTheLastHour(LostSheets x) {
        for (int i = 0; i < 166; i++) {
            x.pass(60);
        }
        due("pass to the last hour", x.pass(39), 9999);
    }
}
