/** Each promise of the document by itself: ordinary numbers, its edges and wrong ones, with answers found by hand. */
public final class PromisesTest {
    private static final int NONE = LostSheets.NONE, BAD = LostSheets.BAD, STATE = LostSheets.STATE;
    private static final int FULL = LostSheets.FULL, NEVER = -5, NONE_BELOW = -10001;
    private static final int NOTHING = -11, CAST = -12, PLACE = -13, SIZE = -14;
    private static final long NO = LostSheets.NO;
    private static final int LEAST = Integer.MIN_VALUE, MOST = Integer.MAX_VALUE;
    /** Takes the hour out of every sum, so that v alone turns: 0 up, 1 left, 2 right, 3 down, always. */
    private static final String STEADY = "back 1 h=1|h=5|h=9;back 2 h=2|h=6;back 3 h=3|h=7";

    private static int wrong = 0;

    private static void due(String call, long got, long want) {
        if (got != want) {
            wrong++;
            System.out.println(call + " answered " + got + ", due is " + want);
        }
    }

    private static void feed(LostSheets x, String text) {
        for (int i = 0; i < text.length(); i++) {
            x.feed(text.charAt(i));
        }
    }

    private static LostSheets steady(int... kindVCell) {
        LostSheets x = new LostSheets();
        for (int i = 0; i + 2 < kindVCell.length; i += 3) {
            due("3, 2 drawer", x.drawer(kindVCell[i], kindVCell[i + 1], kindVCell[i + 2]), i / 3);
        }
        feed(x, STEADY);
        due("10 steady office", x.office(), 0);
        return x;
    }

    private static void newObject() {
        LostSheets x = new LostSheets();
        for (int what = 0; what < 7; what++) {
            due("1 count " + what, x.count(what), 0);
        }
        for (int c = 0; c < 16; c++) {
            due("1 mark " + c, x.told(10 + c), c % 8);
        }
        due("1 hour", x.told(0), 0);
        due("1 know", x.told(1), 3);
        due("1 drawn", x.told(2), 0);
        due("1 done", x.told(3), 0);
        due("1 of", x.of(0, 0), NONE_BELOW);
        due("1 trace", x.trace(0), NONE);
        due("1 undo", x.undo(), STATE);
        for (int t = 0; t < 6; t++) {
            due("1 read", x.read(t, 0), NO);
        }
        due("constants", NONE + 10 * BAD + 100 * STATE + 1000 * FULL, -4321);
        due("NO", LostSheets.NO, Long.MIN_VALUE);
    }

    private static void drawer() {
        LostSheets x = new LostSheets();
        due("2 kind below", x.drawer(-1, 0, 0), NONE);
        due("2 kind above", x.drawer(7, 0, 0), NONE);
        due("2 kind wild", x.drawer(LEAST, 0, 0), NONE);
        due("2 cell below", x.drawer(0, 0, -1), NONE);
        due("2 cell above", x.drawer(0, 0, 16), NONE);
        due("2 cell ahead of v", x.drawer(0, 99, MOST), NONE);
        due("2 v below", x.drawer(0, -1, 0), BAD);
        due("2 v above", x.drawer(0, 10, 15), BAD);
        due("2 none came", x.count(0), 0);
        for (int i = 0; i < 6; i++) {
            due("2 drawer " + i, x.drawer(i + 1, 9 - i, 15 - i), i);
            due("2 kind", x.of(i, 0), i + 1);
            due("2 v", x.of(i, 1), 9 - i);
            due("2 cell", x.of(i, 2), 15 - i);
            due("2 rows", x.of(i, 3), 0);
            due("2 done", x.of(i, 4), 0);
            due("2 drew", x.of(i, 5), 0);
        }
        due("2 full", x.drawer(0, 0, 0), FULL);
        due("2 none ahead of full", x.drawer(7, 0, 0), NONE);
        due("2 bad ahead of full", x.drawer(0, 10, 0), BAD);
        due("2 six", x.count(0), 6);
    }

    private static void feels() {
        LostSheets x = new LostSheets();
        x.drawer(0, 6, 5);
        x.drawer(1, 5, 10);
        x.drawer(2, 9, 0);
        x.drawer(3, 7, 15);
        x.drawer(4, 2, 3);
        x.drawer(5, 4, 13);
        int[] feel = {6, 10, 4, 7, 9, 7};
        for (int i = 0; i < 6; i++) {
            due("3 feel " + i, x.of(i, 6), feel[i]);
            due("3 way " + i, x.of(i, 7), feel[i] % 4);
        }
        x.put(0, 15);
        x.put(1, 15);
        due("3 a lover with two others", x.of(3, 6), 9);
        due("3 one who is no lover", x.of(0, 6), 6);
        x.pass(1);
        // Drawer 0 went right with 6 and stays AT 15, so did 1 with 10; 3 went down with 9 modulo 4 = 1: left to 14.
        due("3 lover went", x.of(3, 2), 14);
        due("3 general with a row", x.of(4, 6), 2 + 1 + 2);
        due("3 drew", x.of(4, 5), 1);
        due("3 rows", x.of(4, 3), 1);
        // The shepherd went by 7: down, and stays AT 13, mark 5; (4 + 1) / 2 = 2.
        due("3 shepherd", x.of(5, 6), 7);

        LostSheets y = new LostSheets();
        y.drawer(0, 2, 5);
        y.drawer(2, 2, 5);
        y.drawer(6, 3, 9);
        y.drawer(5, 2, 6);
        y.row(2, 0, 9);
        y.row(2, 1, 4);
        due("3 told one", y.of(2, 6), 12);
        y.put(0, 9);
        due("3 told one with another", y.of(2, 6), 13);
        feed(y, "back 9 k<9");
        due("3 office", y.office(), 0);
        due("3 below 0", y.of(0, 6), -7);
        due("3 way below 0", y.of(0, 7), 1);
        due("3 half below 0 is cut toward 0", y.of(1, 6), -3);
        due("3 way of -3", y.of(1, 7), 1);
        due("3 shepherd's half is cut, too", y.of(3, 6), -3 + 6);
        due("3 what below", y.of(0, -1), NONE_BELOW);
        due("3 what above", y.of(0, 12), NONE_BELOW);
        due("3 drawer above", y.of(4, 0), NONE_BELOW);
        due("3 drawer below", y.of(-1, 0), NONE_BELOW);
        due("3 wild", y.of(MOST, LEAST), NONE_BELOW);
    }

    private static void cameAndLook() {
        LostSheets x = steady(0, 0, 5);
        due("3 came without rows", x.of(0, 8), 65535);
        due("3 here without rows", x.of(0, 9), 65535);
        x.pass(1);
        // One row: up, mark 1. Up to a 1 come 1 (stays), 5 and 13.
        due("3 came", x.of(0, 8), 2 + 32 + 8192);
        due("3 here", x.of(0, 9), 2 + 512);
        due("3 look of several the first", x.of(0, 10), 0);
        x.mark(5, 1);
        // 9 comes to 5 now. Up brings 1, 5 and 9 to three marks 1 (two of them on one cell); left to 0 4 0.
        due("3 came by marks as they are now", x.of(0, 8), 2 + 32 + 512 + 8192);
        due("3 here by marks as they are now", x.of(0, 9), 2 + 32 + 512);
        due("3 look", x.of(0, 10), 1);
        for (int c = 0; c < 16; c++) {
            x.mark(c, 7);
        }
        due("3 came from nowhere", x.of(0, 8), 0);
        due("3 here nowhere", x.of(0, 9), 0);
        due("3 look nowhere", x.of(0, 10), NEVER);
    }

    private static void places() {
        LostSheets x = steady(0, 0, 5);
        due("3 places by nothing", x.of(0, 11), 65535);
        x.see(0, 0, 3);
        due("3 places of a 3", x.of(0, 11), 8 + 2048);
        x.see(0, 1, 3);
        // Up from 3 stays on a 3, up from 11 comes to the 7.
        due("3 places of a 3 and then a 3", x.of(0, 11), 8);
        x.see(0, 2, 0);
        due("3 places nowhere", x.of(0, 11), 0);
        due("3 places moves none", x.of(0, 2), 5);
    }

    private static void sheet() {
        LostSheets x = steady(0, 2, 4);
        due("4 no row", x.sheet(0, 0), NONE);
        x.pass(3);
        due("4 row 0", x.sheet(0, 0), 25);
        due("4 row 1", x.sheet(0, 1), 26);
        due("4 row 2", x.sheet(0, 2), 27);
        due("4 row 3", x.sheet(0, 3), NONE);
        due("4 row below", x.sheet(0, -1), NONE);
        due("4 row wild", x.sheet(0, MOST), NONE);
        due("4 drawer", x.sheet(1, 0), NONE);
        due("4 drawer below", x.sheet(-1, 0), NONE);
        x.anew(0);
        due("4 anew", x.sheet(0, 0), NONE);
    }

    private static void put() {
        LostSheets x = steady(0, 2, 4);
        due("5 was", x.put(0, 15), 4);
        due("5 was then", x.put(0, 0), 15);
        due("5 at", x.of(0, 2), 0);
        due("5 not drawn", x.told(2), 0);
        due("5 cell below", x.put(0, -1), NONE);
        due("5 cell above", x.put(0, 16), NONE);
        due("5 drawer", x.put(1, 0), NONE);
        due("5 drawer below", x.put(-1, 0), NONE);
        due("5 still", x.of(0, 2), 0);
    }

    private static void anew() {
        LostSheets x = steady(0, 1, 1);
        due("6 nothing", x.anew(0), 0);
        x.pass(60);
        due("6 done", x.of(0, 4), 1);
        due("6 had", x.anew(0), 3);
        due("6 rows", x.of(0, 3), 0);
        due("6 not done", x.of(0, 4), 0);
        due("6 drew stays", x.of(0, 5), 3);
        due("6 drawer", x.anew(1), NONE);
        due("6 drawer below", x.anew(-1), NONE);
    }

    private static void mark() {
        LostSheets x = new LostSheets();
        due("7 was", x.mark(13, 7), 5);
        due("7 is", x.told(23), 7);
        due("7 was then", x.mark(13, 0), 7);
        due("7 others", x.told(22), 4);
        due("7 cell below", x.mark(-1, 0), NONE);
        due("7 cell above", x.mark(16, 0), NONE);
        due("7 none ahead of bad", x.mark(16, 8), NONE);
        due("7 mark below", x.mark(0, -1), BAD);
        due("7 mark above", x.mark(0, 8), BAD);
        due("7 still", x.told(10), 0);
    }

    private static void row() {
        LostSheets x = new LostSheets();
        x.drawer(3, 0, 0);
        x.drawer(6, 0, 0);
        due("8 was", x.row(1, 3, 9), 0);
        due("8 was then", x.row(1, 3, 0), 9);
        due("8 another part", x.row(1, 0, 4), 0);
        due("8 feel by part 0 and one other", x.of(1, 6), 5);
        x.pass(1);
        due("8 feel by part 1: the hour alone", x.of(1, 6), 1 + (x.of(0, 2) == x.of(1, 2) ? 1 : 0));
        due("8 another kind", x.row(0, 0, 0), STATE);
        due("8 bad ahead of state", x.row(0, 0, 10), BAD);
        due("8 part below", x.row(1, -1, 0), NONE);
        due("8 part above", x.row(1, 4, 0), NONE);
        due("8 part ahead of the kind", x.row(0, 4, 0), NONE);
        due("8 n below", x.row(1, 0, -1), BAD);
        due("8 n above", x.row(1, 0, 10), BAD);
        due("8 drawer", x.row(2, 0, 0), NONE);
        due("8 drawer below", x.row(-1, 0, 99), NONE);
    }

    private static void feed() {
        LostSheets x = new LostSheets();
        due("9 below", x.feed(-1), BAD);
        due("9 above", x.feed(128), BAD);
        due("9 none", x.count(5), 0);
        due("9 least", x.feed(0), 1);
        due("9 most", x.feed(127), 2);
        for (int i = 3; i <= 100; i++) {
            due("9 sign " + i, x.feed(65), i);
        }
        due("9 full", x.feed(65), FULL);
        due("9 bad ahead of full", x.feed(200), BAD);
        due("9 hundred", x.count(5), 100);
        due("9 fault of the first", x.office(), -10);
        due("9 empty", x.count(5), 0);
    }

    private static void fault(String text, int place) {
        LostSheets x = new LostSheets();
        feed(x, text);
        due("10 '" + text + "'", x.office(), place < 0 ? 0 : -10 - place);
        due("10 text is empty", x.count(5), 0);
        due("10 offices", x.count(1), place < 0 ? 1 : 0);
    }

    private static void faults() {
        fault("", 0);
        fault(" ", 0);
        fault("turm 1 p=1", 3);
        fault("turn", 4);
        fault("turn ", 5);
        fault("turn  1 p=1", 5);
        fault("turn 1", 6);
        fault("turn 12", 7);
        fault("turn 123 p=1", 7);
        fault("turn 1;know 1", 6);
        fault("turn 1 ", 7);
        fault("turn 1 p", 8);
        fault("turn 1 p!1", 8);
        fault("turn 1 p=", 9);
        fault("turn 1 p==1", 9);
        fault("turn 1 p=123", 11);
        fault("turn 1 p=1 ", 10);
        fault("turn 1 p=1)", 10);
        fault("turn 1 p=1&", 11);
        fault("turn 1 p=1||p=2", 11);
        fault("turn 1 (p=1", 11);
        fault("turn 1 (p=1;", 11);
        fault("turn 1 ()", 8);
        fault("turn 1 p=1!", 10);
        fault("turn 1 P=1", 7);
        fault("know", 4);
        fault("know x", 5);
        fault("know 1 ", 6);
        fault("know 100", 7);
        fault("know 1;", 7);
        fault(";know 1", 0);
        fault("know 1;;know 1", 7);
        fault("back 1 !!!!!p=1", 11);
        fault("back 1 (((((p=1)))))", 11);
        fault("back 1 !(!((p=1)))", 11);
        fault("back 1 !(!(p=1&!p=1))", 15);
        fault("know 00", -1);
        fault("know 1;know 2", -1);
        fault("back 1 !!!!p=1&!!!!p=2", -1);
        fault("back 99 ((((p=1))))|!(!(p<10&k>0)|m=7)", -1);
        fault("back 99 ((((p=1))))|!(!(!p<10&k>0)|m=7)", 24);
        fault("turn 01 s=0&v=1&h=2|p=3", -1);
        fault("know 1;know 2;know 3;know 4;know 5;know 6;know 7;know 8;know 9;know 9", -1);
        fault("know 1;know 2;know 3;know 4;know 5;know 6;know 7;know 8;know 9;know 9;", 69);
        fault("know 1;know 2;know 3;know 4;know 5;know 6;know 7;know 8;know 9;know 9;know 9", 69);
        String long99 = "turn 11 p=1|p=1|p=1|p=1|p=1|p=1|p=1|p=1|p=1|p=1|p=1|p=1|p=1|p=1|p=1|p=1|p=1|p=1|p=1|p=1|p=1|p=1|p=1";
        fault(long99, -1);
        fault(long99 + "0", -1);
        fault(long99 + "|", 100);
    }

    private static void holds(String e, int sum) {
        LostSheets x = new LostSheets();
        x.drawer(0, 0, 0);
        x.drawer(6, 3, 10);
        feed(x, "turn 40 " + e);
        due("10 office '" + e + "'", x.office(), 0);
        due("10 '" + e + "'", x.of(1, 6), 3 + sum);
    }

    private static void offices() {
        // Of drawer 1: p 1, k 6, v 3, m 2, s 0, h 0.
        holds("p=1", 40);
        holds("k=6", 40);
        holds("v=3", 40);
        holds("m=2", 40);
        holds("s=0", 40);
        holds("h=0", 40);
        holds("v<3", 0);
        holds("v<4", 40);
        holds("v>3", 0);
        holds("v>02", 40);
        holds("v>99", 0);
        holds("!v=3", 0);
        holds("!!v=3", 40);
        // ! binds ahead of &, & ahead of |.
        holds("!v=4&p=1", 40);
        holds("!v=3&p=9", 0);
        holds("p=1|p=9&p=9", 40);
        holds("(p=1|p=9)&p=9", 0);
        holds("p=9&p=1|p=1", 40);
        holds("p=9|p=9|p=1", 40);
        holds("p=1&p=1&p=9", 0);
        holds("!(p=9|k=6)", 0);
        holds("p=9|(k=6&!(v=3&m=1))", 40);

        LostSheets x = new LostSheets();
        x.drawer(0, 1, 0);
        feed(x, "turn 9 p=0;turn 5 k=0;back 3 p=0;back 1 p=1;know 2;know 5");
        due("10 number", x.office(), 0);
        due("10 sum", x.of(0, 6), 12);
        due("10 the last know", x.told(1), 5);
        feed(x, "turn 2");
        due("10 fault", x.office(), -16);
        due("10 the one that held holds", x.of(0, 6), 12);
        for (int i = 1; i < 6; i++) {
            feed(x, "turn " + i + " p=0");
            due("10 number " + i, x.office(), i);
            due("10 the newest holds", x.of(0, 6), 1 + i);
            due("10 without know", x.told(1), 3);
        }
        feed(x, "know 1");
        due("10 full", x.office(), FULL);
        due("10 the text stays", x.count(5), 6);
        due("10 still holds", x.of(0, 6), 6);
        feed(x, "!");
        due("10 full ahead of a fault", x.office(), FULL);
        due("10 it stays, too", x.count(5), 7);
    }

    private static void told() {
        // All is drawn in three hours: 3 go down, 4 goes right, 5 goes left.
        LostSheets x = steady(0, 3, 0, 0, 3, 1, 0, 3, 2, 0, 3, 3, 0, 2, 0, 0, 1, 1);
        due("11 whole", x.told(4), 3);
        x.pass(1);
        due("11 hour", x.told(0), 1);
        due("11 whole then", x.told(4), 2);
        due("11 drawn", x.told(2), 1 + 2 + 16 + 32 + 64 + 128);
        x.pass(2);
        due("11 whole now", x.told(4), 0);
        due("11 all drawn", x.told(2), 65535);
        due("11 done: three times 0", x.told(3), 32);
        x.put(5, 15);
        due("11 done stays", x.told(3), 32);
        due("11 never", steady(0, 3, 0).told(4), NEVER);

        LostSheets y = steady(0, 0, 5);
        y.see(0, 0, 5);
        due("11 marks of where it is", y.told(35), 32);
        due("11 marks of another", y.told(36), 255);
        y.see(0, 1, 3);
        due("11 marks of where it is not enough", y.told(35), 0);
        due("11 marks of where it comes to", y.told(31), 8);
        y.see(0, 2, 4);
        due("11 marks of none", y.told(31), 0);
        due("11 marks change none", y.told(11), 1);
        due("11 gap", y.told(5), NONE);
        due("11 below 10", y.told(9), NONE);
        due("11 cells from 10", y.told(10), 0);
        due("11 cells to 25", y.told(25), 7);
        due("11 behind 25", y.told(26), NONE);
        due("11 below 30", y.told(29), NONE);
        due("11 behind 45", y.told(46), NONE);
        due("11 below", y.told(-1), NONE);
        due("11 wild", y.told(LEAST), NONE);
    }

    private static void pass() {
        LostSheets x = steady(0, 0, 12, 0, 2, 12);
        due("12 below", x.pass(-1), BAD);
        due("12 above", x.pass(61), BAD);
        due("12 none", x.pass(0), 0);
        due("12 two", x.pass(2), 2);
        due("12 at", x.of(0, 2), 4);
        due("12 row", x.sheet(0, 1), 4);
        due("12 the other at", x.of(1, 2), 14);
        due("12 drawn", x.told(2), 16 + 256 + 8192 + 16384);
        x.pass(60);
        // 0: 0 4 0 0 done by three 0; 1: 5 6 7 7 7 done by three 7.
        due("12 rows till done", x.of(0, 3), 4);
        due("12 rows till done", x.of(1, 3), 5);
        due("12 drew", x.of(1, 5), 5);
        due("12 hour", x.told(0), 62);

        LostSheets y = new LostSheets();
        y.drawer(0, 2, 0);
        feed(y, "know 9");
        y.office();
        y.pass(10);
        due("12 eight rows at most", y.of(0, 3), 8);
        due("12 drew eight", y.of(0, 5), 8);
        due("12 not done by nine", y.of(0, 4), 0);
        for (int i = 0; i < 166; i++) {
            y.pass(60);
        }
        due("12 hour", y.told(0), 9970);
        due("12 too far", y.pass(30), STATE);
        due("12 bad ahead of state", y.pass(61), BAD);
        due("12 to the last", y.pass(29), 9999);
        due("12 none from the last", y.pass(0), 9999);
        due("12 beyond the last", y.pass(1), STATE);
        y.anew(0);
        y.put(0, 5);
        // By 2 + 9 down to 9; then the hour is 10000: by 2 right to 10.
        due("13 goes on beyond the last hour", y.on(2, 10), 10);
        due("19 plan", y.plan(0, 0) + y.plan(0, 0), 3);
        due("20 ends beyond the last hour", y.ends(1), 10);
    }

    private static void simultaneous() {
        // Two lovers at one cell feel each other, though the first goes first.
        LostSheets x = steady(3, 0, 5, 3, 0, 5, 3, 0, 9);
        x.pass(1);
        due("12 first lover", x.of(0, 2), 4);
        due("12 second lover by how all was ahead", x.of(1, 2), 4);
        due("12 third lover by how all was ahead", x.of(2, 2), 5);
        feed(x, "know 0");
        x.office();
        x.pass(1);
        due("12 known by nothing", x.told(3), 7);
    }

    private static void on() {
        LostSheets x = steady(0, 0, 12, 0, 1, 1);
        due("13 drawn", x.on(2, 0), 256 + 16 + 1);
        due("13 done by then", x.on(2, 1), 0);
        due("13 done then", x.on(3, 1), 2);
        due("13 all done", x.on(60, 1), 3);
        due("13 at", x.on(2, 10), 4);
        due("13 at the other", x.on(2, 11), 0);
        due("13 now", x.on(0, 10), 12);
        due("13 changes nothing", x.told(0) + x.told(2) + x.of(0, 3), 0);
        due("13 no drawer", x.on(0, 12), NONE);
        due("13 what", x.on(0, 2), NONE);
        due("13 what", x.on(0, 9), NONE);
        due("13 what below", x.on(0, -1), NONE);
        due("13 what wild", x.on(0, LEAST), NONE);
        due("13 none ahead of bad", x.on(61, 16), NONE);
        due("13 n above", x.on(61, 0), BAD);
        due("13 n below", x.on(-1, 11), BAD);
    }

    private static void best() {
        LostSheets x = steady(0, 3, 0, 0, 3, 1, 0, 3, 2, 0, 3, 3, 0, 2, 0, 0, 1, 1);
        due("14 all are needed", x.best(3, 0), 63);
        x.pass(3);
        due("14 none is needed", x.best(3, 0), 0);
        LostSheets y = steady(0, 0, 13, 0, 0, 13, 0, 3, 13);
        due("14 the least of several", y.best(2, 0), 1 + 4);
        due("14 landing: three above, of several the first", y.best(3, 10), 12);
        // The others draw 9, 5 and 13: from 12 upward only 8 and 4 come, from 13 nothing, from 0 one cell.
        due("14 landing by one hour", y.best(1, 10), 0);
        due("14 landing of one who goes down", y.best(2, 12), 0);
        due("14 puts none", y.of(0, 2), 13);
        due("14 no drawer", y.best(1, 13), NONE);
        due("14 what", y.best(1, 1), NONE);
        due("14 what below", y.best(1, -1), NONE);
        due("14 none ahead of bad", y.best(0, 9), NONE);
        due("14 n below", y.best(0, 0), BAD);
        due("14 n above", y.best(13, 10), BAD);
        due("14 n at most", y.best(12, 10), 12);
        due("14 without drawers", new LostSheets().best(1, 0), 0);
    }

    private static void see() {
        LostSheets x = steady(0, 0, 5);
        due("15 drawer", x.see(1, 0, 0), NONE);
        due("15 drawer below -1", x.see(-2, 0, 0), NONE);
        due("15 none ahead of bad", x.see(1, 13, 8), NONE);
        due("15 n below", x.see(0, -1, 0), BAD);
        due("15 n above", x.see(0, 13, 0), BAD);
        due("15 mark below", x.see(0, 0, -1), BAD);
        due("15 mark above", x.see(0, 0, 8), BAD);
        for (int i = 1; i <= 5; i++) {
            due("15 seen " + i, x.see(0, 12, 7), i);
        }
        due("15 full", x.see(0, 0, 0), FULL);
        due("15 bad ahead of full", x.see(0, 0, 8), BAD);
        due("15 how many", x.count(2), 5);
        due("15 empty", x.see(-1, 99, 99), 0);
        due("15 how many then", x.count(2), 0);
        x.see(0, 1, 1);
        due("15 from now", x.of(0, 11), 2 + 32 + 8192);
        x.pass(1);
        due("15 from this now", x.told(31), 2);
    }

    private static void can() {
        LostSheets x = steady(0, 0, 5);
        due("16 all", x.can(0, 0), 10);
        due("16 the least of all", x.can(0, 1), 0);
        x.see(0, 1, 1);
        // Up (0 4 8) and down (3 7) come to a 1.
        due("16 how many", x.can(0, 0), 5);
        due("16 the least", x.can(0, 1), 0);
        x.see(-1, 0, 0);
        x.see(0, 1, 4);
        due("16 left", x.can(0, 0), 3);
        due("16 least left", x.can(0, 1), 1);
        x.see(0, 0, 4);
        due("16 none", x.can(0, 0), 0);
        due("16 least of none", x.can(0, 1), NEVER);
        due("16 v stays", x.of(0, 1), 0);
        due("16 what", x.can(0, 2), NONE);
        due("16 what below", x.can(0, -1), NONE);
        due("16 drawer", x.can(1, 0), NONE);
        due("16 drawer below", x.can(-1, 1), NONE);
    }

    private static void odds() {
        LostSheets x = steady(0, 0, 12);
        due("17 nothing", x.odds(0, 2, 0), 0);
        due("17 nothing below the line", x.odds(0, 2, 1), 1);
        due("17 half: from the two rows above", x.odds(0, 3, 0), 1);
        due("17 half", x.odds(0, 3, 1), 2);
        due("17 all", x.odds(0, 20, 0), 1);
        due("17 all", x.odds(0, 20, 1), 1);
        x.mark(0, 7);
        // From 0, 4: three 7. From 8: 4 7 7 not yet.
        due("17 still half", x.odds(0, 3, 1), 2);
        x.mark(4, 0);
        x.mark(8, 0);
        x.mark(0, 0);
        // In this column all are 0: ten of 16.
        due("17 five", x.odds(0, 3, 0), 5);
        due("17 of eight", x.odds(0, 3, 1), 8);
        due("17 moves none", x.of(0, 2), 12);
        due("17 n below", x.odds(0, -1, 0), NO);
        due("17 n above", x.odds(0, 21, 0), NO);
        due("17 part below", x.odds(0, 0, -1), NO);
        due("17 part above", x.odds(0, 0, 2), NO);
        due("17 drawer", x.odds(1, 0, 0), NO);
        due("17 drawer below", x.odds(-1, 0, 0), NO);
    }

    private static void mean() {
        LostSheets x = steady(0, 0, 12, 0, 1, 1, 0, 2, 4, 0, 3, 1);
        due("18 nothing", x.mean(0, 0), 0);
        due("18 nothing below the line", x.mean(0, 1), 1);
        due("18 three", x.mean(3, 0), 3);
        due("18 three by one", x.mean(3, 1), 1);
        // 0 is done with 4, 1 with 3, 2 with 5 (5 6 7 7 7), 3 with 5 (5 1 5 5 at hour 4: done with 4).
        due("18 four", x.mean(4, 0), 15);
        due("18 by four", x.mean(4, 1), 4);
        due("18 all", x.mean(60, 0), 4);
        due("18 all", x.mean(60, 1), 1);
        due("18 changes none", x.of(0, 5), 0);
        due("18 n below", x.mean(-1, 0), NO);
        due("18 n above", x.mean(61, 0), NO);
        due("18 part below", x.mean(0, -1), NO);
        due("18 part above", x.mean(0, 2), NO);
        due("18 without drawers", new LostSheets().mean(0, 0), NO);
    }

    private static void plan() {
        LostSheets x = steady(0, 1, 1);
        due("19 what below -1", x.plan(-2, 0), NONE);
        due("19 what above", x.plan(4, 0), NONE);
        due("19 drawer by 1", x.plan(1, 1), NONE);
        due("19 drawer by 2", x.plan(2, -1), NONE);
        due("19 cell", x.plan(3, 16), NONE);
        due("19 cell below", x.plan(3, -1), NONE);
        due("19 none", x.count(3), 0);
        due("19 an hour, whatever n is", x.plan(0, LEAST), 1);
        for (int i = 2; i < 6; i++) {
            x.plan(0, 99);
        }
        due("20 done with three", x.ends(1), 3);
        due("20 drawn", x.ends(0), 1);
        due("19 not done", x.plan(2, 0), 6);
        due("19 an hour", x.plan(0, 0), 7);
        // It draws a fourth 0, and is done again.
        due("20 four", x.ends(1), 4);
        due("19 no rows", x.plan(1, 0), 8);
        due("19 an hour", x.plan(0, 0), 9);
        due("20 no rows is done still", x.ends(1), 4);
        due("19 the last", x.plan(3, 15), 10);
        due("19 full", x.plan(0, 0), FULL);
        due("19 none ahead of full", x.plan(3, 16), NONE);
        due("19 how many", x.count(3), 10);
        due("20 changes none", x.told(0) + x.of(0, 3) + x.told(2), 0);
        due("20 marks stay", x.told(25), 7);
        due("19 empty", x.plan(-1, 77), 0);
        due("19 how many then", x.count(3), 0);
        due("20 what", x.ends(2), NONE);
        due("20 what below", x.ends(-1), NONE);

        LostSheets y = steady(0, 2, 5);
        for (int i = 0; i < 3; i++) {
            y.plan(3, 7);
            y.plan(0, 0);
        }
        // Right to 6, 7, 7 ..: two 0; with a blank 6 it is done by the third.
        due("20 three", y.ends(1), 3);
        y.plan(-1, 0);
        y.plan(3, 6);
        y.plan(3, 7);
        for (int i = 0; i < 5; i++) {
            y.plan(0, 0);
        }
        due("20 done by three blanks", y.ends(1), 3);
        due("20 drawn by then", y.ends(0), 64 + 128);

        LostSheets z = steady(0, 2, 4);
        z.mark(6, 0);
        z.mark(7, 0);
        z.plan(3, 5);
        for (int i = 0; i < 5; i++) {
            z.plan(0, 0);
        }
        due("20 a blank one is like the other 0", z.ends(1), 3);

        LostSheets w = steady(0, 2, 4);
        feed(w, "know 9");
        w.office();
        w.pass(8);
        w.plan(1, 0);
        for (int i = 0; i < 9; i++) {
            w.plan(0, 0);
        }
        due("20 an empty sheet has eight rows again", w.ends(1), 16);
        due("20 its rows stay", w.of(0, 3), 8);
    }

    private static void book() {
        LostSheets x = new LostSheets();
        due("21 cell below -1", x.book(-2, 0), NONE);
        due("21 cell above", x.book(16, 0), NONE);
        due("21 none ahead of bad", x.book(16, 8), NONE);
        due("21 mark below", x.book(0, -1), BAD);
        due("21 mark above", x.book(0, 8), BAD);
        due("22 nothing to look at", x.looked(), NEVER);
        for (int i = 1; i <= 8; i++) {
            due("21 row " + i, x.book(16 - i, (16 - i) % 8), i);
        }
        due("21 full", x.book(0, 0), FULL);
        due("21 bad ahead of full", x.book(0, 8), BAD);
        due("21 how many", x.count(4), 8);
        due("22 all is so", x.looked(), NEVER);
        x.mark(8, 5);
        due("22 the last is otherwise", x.looked(), 7);
        x.mark(13, 0);
        due("22 the first that is otherwise", x.looked(), 2);
        x.mark(15, 0);
        due("22 row 0", x.looked(), 0);
        due("21 empty", x.book(-1, 99), 0);
        due("22 empty", x.looked(), NEVER);
        due("21 how many then", x.count(4), 0);
    }

    private static void judge() {
        LostSheets x = new LostSheets();
        due("23 tape below", x.judge(-1, 0), NONE);
        due("23 tape above", x.judge(6, 0), NONE);
        due("23 nothing", x.judge(0, 0), 100);
        x.tape(0, 0, 18);
        for (int c = 0; c < 16; c++) {
            x.item(0, 2 + c, c % 8);
        }
        due("23 all so", x.judge(0, 2), NEVER);
        due("23 the second is otherwise", x.judge(0, 1), 1);
        due("23 it ends", x.judge(0, 10), 108);
        due("23 otherwise ahead of the end", x.judge(0, 17), 0);
        due("23 place below", x.judge(0, -1), 100);
        due("23 place wild", x.judge(0, LEAST), 100);
        due("23 place at the end", x.judge(0, 18), 100);
        due("23 place beyond", x.judge(0, MOST), 100);
        x.item(0, 17, 7 + 256);
        due("23 bytes alone", x.judge(0, 2), NEVER);
        x.item(0, 17, -1);
        due("23 the last is otherwise", x.judge(0, 2), 15);
        x.mark(0, 1);
        due("23 marks as they are", x.judge(0, 2), 0);
        x.tape(1, 0, 5);
        for (int c = 0; c < 5; c++) {
            x.item(1, c, c == 0 ? 1 : c);
        }
        due("23 five were looked at", x.judge(1, 0), 105);
        for (int sort = 1; sort < 5; sort++) {
            x.tape(2, sort, 3);
            due("23 another sort", x.judge(2, 0), CAST);
            due("23 another sort ahead of the place", x.judge(2, -1), CAST);
        }
        x.tape(2, -1, 0);
        due("23 nothing again", x.judge(2, 0), 100);
        x.tape(2, 0, 0);
        due("23 an empty row", x.judge(2, 0), 100);
    }

    private static void image() {
        LostSheets x = steady(6, 0, 5);
        due("25 no image", x.undo(), STATE);
        x.row(0, 2, 4);
        x.see(0, 0, 5);
        x.plan(0, 0);
        x.book(0, 0);
        x.pass(1);
        due("24 drawers", x.image(), 1);
        int drawn = x.told(2), at = x.of(0, 2), row = x.sheet(0, 0);
        x.drawer(1, 9, 9);
        x.mark(3, 0);
        x.row(0, 2, 9);
        x.see(0, 0, 6);
        x.plan(0, 0);
        x.book(1, 1);
        feed(x, "know 1");
        due("24 newer", x.office(), 1);
        feed(x, "kn");
        x.tape(0, 0, 3);
        x.act(0, 0, 1);
        x.pass(5);
        x.anew(0);
        due("25 drawers", x.undo(), 1);
        due("25 count", x.count(0), 1);
        due("25 second is away", x.of(1, 0), NONE_BELOW);
        due("25 mark", x.told(13), 3);
        due("25 hour", x.told(0), 1);
        due("25 drawn", x.told(2), drawn);
        due("25 at", x.of(0, 2), at);
        due("25 rows", x.of(0, 3), 1);
        due("25 row", x.sheet(0, 0), row);
        due("25 drew", x.of(0, 5), 1);
        due("25 done", x.told(3), 0);
        due("25 told row", x.row(0, 2, 4), 4);
        due("25 seen", x.count(2), 1);
        due("25 planned", x.count(3), 1);
        due("25 booked", x.count(4), 1);
        due("25 the office that held", x.told(1), 3);
        due("25 offices stay", x.count(1), 2);
        due("25 the text stays", x.count(5), 2);
        due("25 the trace stays", x.count(6), 2);
        due("25 tapes stay", x.read(0, 2), 0);
        x.mark(0, 5);
        due("25 twice", x.undo(), 1);
        due("25 mark again", x.told(10), 0);
        due("25 the second again, as new", x.drawer(6, 2, 2), 1);
        due("25 no row", x.of(1, 3) + x.of(1, 4) + x.of(1, 5) + x.row(1, 0, 0), 0);
        due("24 two", x.image(), 2);
        feed(x, "ow 2");
        due("10 the text was whole", x.office(), 2);
        due("10 it holds", x.told(1), 2);

        LostSheets y = new LostSheets();
        due("24 nobody", y.image(), 0);
        feed(y, "know 7");
        y.office();
        y.drawer(0, 0, 0);
        due("25 nobody", y.undo(), 0);
        due("25 no office", y.told(1), 3);
        due("25 no drawer", y.count(0), 0);
        y.drawer(6, 0, 0);
        for (int part = 0; part < 4; part++) {
            y.row(0, part, 9);
        }
        y.undo();
        y.drawer(6, 0, 0);
        for (int part = 0; part < 4; part++) {
            due("25 a new one's row", y.row(0, part, 1), 0);
        }
    }

    private static void act(LostSheets x, int drawer, int act, int in, int out, int... bodies) {
        String call = "26 act " + drawer + " " + act + " " + in;
        due(call, x.act(drawer, act, in), out);
        due(call + " ran", x.count(6), bodies.length);
        for (int i = 0; i < bodies.length; i++) {
            due(call + " 27 trace " + i, x.trace(i), bodies[i]);
        }
        due(call + " 27 behind", x.trace(bodies.length), NONE);
        due(call + " 27 below", x.trace(-1), NONE);
    }

    private static void acts() {
        LostSheets x = new LostSheets();
        for (int k = 0; k < 6; k++) {
            x.drawer(k, k + 1, 0);
        }
        act(x, 0, 0, 5, 5, 10);
        act(x, 0, 1, 5, 4, 11, 10);
        act(x, 0, 2, 5, 8, 12, 11, 10);
        act(x, 1, 0, 5, 6, 10);
        act(x, 1, 1, 5, 2, 20, 11, 10);
        act(x, 1, 2, 5, 4, 12, 20, 11, 10);
        act(x, 2, 0, 5, 17, 30, 10);
        act(x, 2, 1, 5, 14, 11, 30, 10);
        act(x, 2, 2, 5, 28, 12, 11, 30, 10);
        act(x, 3, 0, 5, 8, 10);
        act(x, 3, 1, 5, 4, 11, 10);
        act(x, 3, 2, 5, 8, 40, 12, 11, 10, 11, 10);
        act(x, 4, 0, 5, -9, 50, 10);
        act(x, 4, 1, 5, -9, 51, 20, 11, 50, 10);
        act(x, 4, 2, 5, -18, 12, 51, 20, 11, 50, 10);
        act(x, 5, 0, 5, 20, 30, 10);
        act(x, 5, 1, 5, 14, 11, 30, 10);
        act(x, 5, 2, 5, -2, 60, 12, 11, 30, 10);
        act(x, 2, 0, MOST, 2147483647, 30, 10);
        act(x, 0, 2, LEAST, -2, 12, 11, 10);
        act(x, 6, 0, 5, 0);
        act(x, 0, 0, 1, 1, 10);
        act(x, -1, 0, 5, 0);
        act(x, 0, 0, 1, 1, 10);
        act(x, 0, 3, 5, 0);
        act(x, 0, -1, 5, 0);
        LostSheets y = new LostSheets();
        y.drawer(6, 7, 0);
        act(y, 0, 0, 5, 2, 71, 10);
        act(y, 0, 1, 5, -3, 70, 11, 71, 10, 10);
        act(y, 0, 2, 5, -5, 40, 12, 70, 11, 71, 10, 10, 70, 11, 71, 10, 10);
    }

    private static void taken() {
        boolean[][] under = new boolean[7][7];
        int[] above = {-1, 0, 0, 0, 1, 2, 3};
        for (int k = 0; k < 7; k++) {
            for (int up = k; up >= 0; up = above[up]) {
                under[k][up] = true;
            }
        }
        for (int kind = 0; kind < 7; kind++) {
            LostSheets x = new LostSheets();
            x.drawer(kind, 0, 0);
            for (int k = 0; k < 7; k++) {
                due("28 a " + kind + " for a " + k, x.taken(0, k), under[kind][k] ? kind : CAST);
                due("28 nobody", x.taken(1, k), NOTHING);
                due("28 nobody below", x.taken(-1, k), NOTHING);
            }
            due("28 kind below", x.taken(0, -1), BAD);
            due("28 kind above", x.taken(0, 7), BAD);
            due("28 bad ahead of nothing", x.taken(9, 7), BAD);
        }
    }

    private static void count() {
        LostSheets x = steady(0, 0, 0, 0, 0, 0);
        feed(x, "abc");
        x.see(0, 0, 0);
        x.plan(0, 0);
        x.plan(0, 0);
        x.book(0, 0);
        x.act(0, 1, 0);
        int[] due = {2, 1, 1, 2, 1, 3, 2};
        for (int what = 0; what < 7; what++) {
            due("29 count " + what, x.count(what), due[what]);
        }
        due("29 below", x.count(-1), BAD);
        due("29 above", x.count(7), BAD);
        due("29 wild", x.count(LEAST), BAD);
    }

    private static void tapes() {
        LostSheets x = new LostSheets();
        due("30 tape below", x.tape(-1, 0, 0), NONE);
        due("30 tape above", x.tape(6, 9, 99), NONE);
        due("30 sort below", x.tape(0, -2, 0), BAD);
        due("30 sort above", x.tape(0, 5, 0), BAD);
        due("30 n above", x.tape(0, 0, 61), BAD);
        due("30 n below", x.tape(0, 0, -1), SIZE);
        due("30 bad ahead of size", x.tape(0, 5, -1), BAD);
        due("31 nothing", x.item(0, 0, 0), NOTHING);
        due("30 the longest", x.tape(0, 3, 60), 1);
        due("31 last", x.item(0, 59, Long.MAX_VALUE), 1);
        due("32 last", x.read(0, 59), Long.MAX_VALUE);
        due("31 behind", x.item(0, 60, 0), PLACE);
        due("31 below", x.item(0, -1, 0), PLACE);
        due("32 behind", x.read(0, 60), NO);
        due("32 below", x.read(0, -1), NO);
        due("30 all 0 again", x.tape(0, 3, 60), 1);
        due("32 0", x.read(0, 59), 0);
        due("30 empty", x.tape(0, 3, 0), 1);
        due("31 empty", x.item(0, 0, 0), PLACE);
        due("32 empty", x.read(0, 0), NO);
        due("30 nothing, whatever n is", x.tape(0, -1, MOST), 1);
        due("31 nothing again", x.item(0, 0, 0), NOTHING);
        due("32 nothing again", x.read(0, 0), NO);
        due("31 tape below", x.item(-1, 0, 0), NONE);
        due("31 tape above", x.item(6, 0, 0), NONE);
        due("32 tape below", x.read(-1, 0), NO);
        due("32 tape above", x.read(6, 0), NO);
        long v = 0x0123_4567_89AB_CDEFL;
        long[] due = {(byte) 0xEF, (short) 0xCDEF, 0x89ABCDEF, v, 1};
        for (int sort = 0; sort < 5; sort++) {
            x.tape(1, sort, 2);
            due("31 sort " + sort, x.item(1, 1, v), 1);
            due("32 sort " + sort, x.read(1, 1), due[sort]);
            due("32 the other one", x.read(1, 0), 0);
            x.item(1, 1, 0x1_0000_0000L);
            due("32 a high bit, sort " + sort, x.read(1, 1), sort == 4 ? 1 : sort == 3 ? 0x1_0000_0000L : 0);
            x.item(1, 1, 0);
            due("32 0, sort " + sort, x.read(1, 1), 0);
        }
    }

    private static void shift() {
        LostSheets x = new LostSheets();
        x.tape(0, 1, 6);
        x.tape(1, 1, 4);
        x.tape(2, 2, 6);
        for (int i = 0; i < 6; i++) {
            x.item(0, i, i + 1);
        }
        due("33 tape below", x.shift(-1, 0, 0, 0, 0), NONE);
        due("33 other above", x.shift(0, 0, 6, 0, 0), NONE);
        due("33 none ahead of nothing", x.shift(5, 0, 6, 0, 0), NONE);
        due("33 nothing", x.shift(5, 0, 2, 0, 0), NOTHING);
        due("33 nothing there", x.shift(2, 0, 5, 0, -1), NOTHING);
        due("33 unlike", x.shift(0, 0, 2, 0, 1), CAST);
        due("33 unlike ahead of place", x.shift(0, 9, 2, 9, -1), CAST);
        due("33 n below", x.shift(0, 0, 1, 0, -1), PLACE);
        due("33 i below", x.shift(0, -1, 1, 0, 1), PLACE);
        due("33 j below", x.shift(0, 0, 1, -1, 1), PLACE);
        due("33 beyond the one's end", x.shift(0, 3, 1, 0, 4), PLACE);
        due("33 beyond the other's end", x.shift(0, 0, 1, 1, 4), PLACE);
        due("33 wild", x.shift(0, MOST, 1, 0, MOST), PLACE);
        due("33 wild there", x.shift(0, 0, 1, MOST, 1), PLACE);
        due("33 none, at the ends", x.shift(0, 6, 1, 4, 0), 0);
        due("33 none, beyond the end", x.shift(0, 7, 1, 0, 0), PLACE);
        due("33 three", x.shift(0, 2, 1, 1, 3), 3);
        int[] there = {0, 3, 4, 5};
        for (int i = 0; i < 4; i++) {
            due("33 there " + i, x.read(1, i), there[i]);
        }
        due("33 upward within one", x.shift(0, 0, 0, 2, 4), 4);
        int[] up = {1, 2, 1, 2, 3, 4};
        for (int i = 0; i < 6; i++) {
            due("33 upward " + i, x.read(0, i), up[i]);
        }
        due("33 downward within one", x.shift(0, 3, 0, 1, 3), 3);
        int[] down = {1, 2, 3, 4, 3, 4};
        for (int i = 0; i < 6; i++) {
            due("33 downward " + i, x.read(0, i), down[i]);
        }
    }

    public static void main(String[] args) {
        newObject();
        drawer();
        feels();
        cameAndLook();
        places();
        sheet();
        put();
        anew();
        mark();
        row();
        feed();
        faults();
        offices();
        told();
        pass();
        simultaneous();
        on();
        best();
        see();
        can();
        odds();
        mean();
        plan();
        book();
        judge();
        image();
        acts();
        taken();
        count();
        tapes();
        shift();
        System.out.println(wrong == 0 ? "all promises hold" : wrong + " answers are not as due");
        if (wrong != 0) {
            System.exit(1);
        }
    }
}
