/** The edges of THE TEXT and of OFFICES: what begins one and what doesn't, what its tests ask, SUM and KNOW. */
public final class EdgesOfOfficesTest {
    /** 100 bytes: 23 tests with | between. */
    private static final String HUNDRED =
        "turn 1 p=11|p=1|p=1|p=1|p=1|p=1|p=1|p=1|p=1|p=1|p=1|p=1|p=1|p=1|p=1|p=1|p=1|p=1|p=1|p=1|p=1|p=1|p=11";

    private static void good(String words, String text) {
        Edges.edge(words + ": '" + text + "'", () -> {
            LostSheets x = new LostSheets();
            Edges.due("office", Edges.office(x, text), 0);
            Edges.due("offices", x.count(1), 1);
            Edges.due("bytes of THE TEXT", x.count(5), 0);
        });
    }

    private static void fault(String words, String text, int place) {
        Edges.edge(words + ": '" + text + "'", () -> {
            LostSheets x = new LostSheets();
            Edges.due("office", Edges.office(x, text), -10 - place);
            Edges.due("offices", x.count(1), 0);
            Edges.due("bytes of THE TEXT", x.count(5), 0);
        });
    }

    private static void clauses() {
        String tooFew = "CLAUSES, 1 to 10, none";
        fault(tooFew, "", 0);
        good("CLAUSES, one", "know 1");
        good("CLAUSES, two, with ; between", "know 1;know 2");
        good("CLAUSES, ten", "know 1;know 2;know 3;know 4;know 5;know 6;know 7;know 8;know 9;know 0");
        fault("CLAUSES, eleven", "know 1;know 2;know 3;know 4;know 5;know 6;know 7;know 8;know 9;know 0;know 1", 69);
        fault("CLAUSES, ten and a ;", "know 1;know 2;know 3;know 4;know 5;know 6;know 7;know 8;know 9;know 0;", 69);
        fault("CLAUSES, nine and a ;", "know 1;know 2;know 3;know 4;know 5;know 6;know 7;know 8;know 9;", 63);
        fault("; between, none ahead", ";know 1", 0);
        fault("; between, none behind", "know 1;", 7);
        fault("; between, one alone", "know 1;;know 2", 7);
        fault("; between, not a blank", "know 1 know 2", 6);
        fault("; between, none missing", "know 1know 2", 6);
        good("turn, back and know in any order", "back 1 p=1;know 2;turn 3 k=4;know 5;back 6 v=7");
    }

    private static void words() {
        fault("turn, its first byte", "Turn 1 p=1", 0);
        fault("turn, its second byte", "tarn 1 p=1", 1);
        fault("turn, its third byte", "tunn 1 p=1", 2);
        fault("turn, its last byte", "turm 1 p=1", 3);
        fault("back, its second byte", "bcak 1 p=1", 1);
        fault("back, its last byte", "bace 1 p=1", 3);
        fault("know, its second byte", "kmow 1", 1);
        fault("know, its last byte", "knou 1", 3);
        fault("turn ends too early", "t", 1);
        fault("back ends too early", "bac", 3);
        fault("know ends too early", "know", 4);
        fault("a second clause ends too early", "know 1;b", 8);
        fault("a second clause's first byte", "know 1;x", 7);
        fault("another first byte", "x", 0);
        fault("know has no E", "know 1 p=1", 6);
        fault("turn has an E", "turn 1;know 1", 6);
        fault("turn has an E, it ends too early", "turn 1", 6);
        fault("back has an E, it ends too early", "back 12", 7);
    }

    private static void blanks() {
        fault("one blank ahead of each part, none ahead of turn's n", "turn1 p=1", 4);
        fault("one blank ahead of each part, two ahead of turn's n", "turn  1 p=1", 5);
        fault("one blank ahead of each part, none ahead of turn's E", "turn 1p=1", 6);
        fault("one blank ahead of each part, none behind two digits", "turn 11p=1", 7);
        fault("one blank ahead of each part, two ahead of turn's E", "turn 1  p=1", 7);
        fault("one blank ahead of each part, none ahead of back's n", "back1 p=1", 4);
        fault("one blank ahead of each part, two ahead of back's E", "back 1  p=1", 7);
        fault("one blank ahead of each part, none ahead of know's n", "know1", 4);
        fault("one blank ahead of each part, two ahead of know's n", "know  1", 5);
        fault("no blank ahead of the word", " know 1", 0);
        fault("no blank behind all", "know 1 ", 6);
        fault("no blank behind E", "turn 1 p=1 ", 10);
        fault("no blank ahead of ;", "know 1 ;know 2", 6);
        fault("no blank behind ;", "know 1; know 2", 7);
        fault("no blank within a TEST", "turn 1 p =1", 8);
        fault("no blank ahead of a TEST's number", "turn 1 p= 1", 9);
        fault("no blank ahead of &", "turn 1 p=1 &p=2", 10);
        fault("no blank behind !", "turn 1 ! p=1", 8);
    }

    private static void numbers() {
        fault("n 1 or 2 digits, none by turn", "turn  p=1", 5);
        fault("n 1 or 2 digits, none by know", "know ", 5);
        good("n 1 digit", "turn 0 p=1");
        good("n 2 digits", "turn 99 p=1");
        good("n 2 digits, the first is 0", "back 00 p=1");
        good("know by 2 digits", "know 99");
        fault("n 1 or 2 digits, three by turn", "turn 100 p=1", 7);
        fault("n 1 or 2 digits, three by back", "back 001 p=1", 7);
        fault("n 1 or 2 digits, three by know", "know 100", 7);
        fault("no digit below 0: /", "know /", 5);
        fault("no digit above 9: :", "know :", 5);
        fault("no second digit: /", "know 1/", 6);
        fault("no sign ahead of n", "know -1", 5);
        fault("a TEST's number, none", "turn 1 p=", 9);
        fault("a TEST's number, none ahead of &", "turn 1 p=&p=1", 9);
        good("a TEST's number, 2 digits", "turn 1 p=99");
        fault("a TEST's number, three digits", "turn 1 p=100", 11);
        fault("a TEST's number, a letter", "turn 1 p=k", 9);
    }

    private static void expressions() {
        for (char letter : "pkvmsh".toCharArray()) {
            good("a letter", "turn 1 " + letter + "=1");
        }
        for (char letter : "PqKjwnlrtgi".toCharArray()) {
            fault("no letter of these", "turn 1 " + letter + "=1", 7);
        }
        for (char sign : "<=>".toCharArray()) {
            good("< or = or >", "turn 1 p" + sign + "1");
        }
        for (char sign : ";?!:".toCharArray()) {
            fault("not < or = or >", "turn 1 p" + sign + "1", 8);
        }
        fault("a TEST ends too early", "turn 1 ", 7);
        fault("a TEST ends behind its letter", "turn 1 p", 8);
        fault("one sign alone", "turn 1 p<=1", 9);
        fault("E is no number", "turn 1 1", 7);
        good("T|E", "turn 1 p=1|p=2|p=3");
        good("F&T", "turn 1 p=1&p=2&p=3|p=4");
        fault("| ends too early", "turn 1 p=1|", 11);
        fault("& ends too early", "turn 1 p=1&", 11);
        fault("| ahead of all", "turn 1 |p=1", 7);
        fault("& ahead of all", "turn 1 &p=1", 7);
        fault("| twice", "turn 1 p=1||p=2", 11);
        fault("& behind |", "turn 1 p=1|&p=2", 11);
        fault("! behind a TEST", "turn 1 p=1!p=2", 10);
        fault("( behind a TEST", "turn 1 p=1(p=2)", 10);
        good("!F", "turn 1 !p=1");
        fault("! ends too early", "turn 1 !", 8);
        fault("! of nothing", "turn 1 !&p=1", 8);
        good("(E)", "turn 1 (p=1|p=2)&!(p=3)");
        fault("( ends too early", "turn 1 (", 8);
        fault("(E ends too early", "turn 1 (p=1", 11);
        fault("(E) of nothing", "turn 1 ()", 8);
        fault(") ahead of (", "turn 1 )", 7);
        fault(") without (", "turn 1 p=1)", 10);
        fault("a ) too much", "turn 1 (p=1))", 12);
        fault("; within (", "turn 1 (p=1;know 1", 11);
        fault("a TEST behind )", "turn 1 (p=1)p=2", 12);
    }

    private static void nesting() {
        String four = "A ( or ! within 4 others is none";
        good(four + ", four (", "turn 1 ((((p=1))))");
        fault(four + ", a fifth (", "turn 1 (((((p=1)))))", 11);
        good(four + ", four !", "turn 1 !!!!p=1");
        fault(four + ", a fifth !", "turn 1 !!!!!p=1", 11);
        good(four + ", four of both", "turn 1 !(!(p=1))");
        fault(four + ", ( within four of both", "turn 1 (!(!(p=1)))", 11);
        fault(four + ", ! within four of both", "turn 1 !(!(!p=1))", 11);
        fault(four + ", ! within four (", "turn 1 ((((!p=1))))", 11);
        good(four + ", four in each part of F&T", "turn 1 !!!!p=1&!!!!p=2|!!!!p=3");
        good(four + ", four (, each part by itself", "turn 1 ((((p=1))))&((((p=2))))");
        good(four + ", a ! that has ended is none of them", "turn 1 (((!p=1&!p=2)))");
        fault(four + ", a ( that has not ended is one", "turn 1 (((!p=1&!!p=2)))", 16);
        good(four + ", each clause by itself", "turn 1 ((((p=1))));back 1 !!!!p=1");
        fault(four + ", it ends too early", "turn 1 ((((", 11);
        fault(four + ", ( in the second part", "turn 1 p=1|(((((p=1)))))", 15);
    }

    private static void faultPlaces() {
        fault("The FAULT: the first byte", "!", 0);
        fault("The FAULT: the last byte", "turn 1 p=1x", 10);
        fault("The FAULT: the first of several", "turn 1 p=x;xx", 9);
        Edges.edge("The FAULT: the end of THE TEXT, if it ends too early, by 100 bytes", () -> {
            LostSheets x = new LostSheets();
            Edges.due("office", Edges.office(x, HUNDRED.substring(0, 99) + "|"), -110);
        });
        Edges.edge("The FAULT: the hundredth byte", () -> {
            LostSheets x = new LostSheets();
            Edges.due("office", Edges.office(x, HUNDRED.substring(0, 99) + "x"), -109);
        });
        Edges.edge("The FAULT: signs 0 and 127", () -> {
            LostSheets x = new LostSheets();
            Edges.feed(x, "know 1");
            x.feed(127);
            Edges.due("127", x.office(), -16);
            x.feed(0);
            Edges.due("0", x.office(), -10);
        });
        Edges.edge("by a FAULT THE TEXT is empty then, and the next begins anew", () -> {
            LostSheets x = new LostSheets();
            Edges.due("fault", Edges.office(x, "know 1;"), -17);
            Edges.due("empty", x.count(5), 0);
            Edges.due("fault of nothing", x.office(), -10);
            Edges.due("office", Edges.office(x, "know 2"), 0);
            Edges.due("know", x.told(1), 2);
        });
        Edges.edge("by a FAULT nothing of its good clauses comes to the next OFFICE", () -> {
            LostSheets x = Edges.with("", 0, 0, 0);
            Edges.due("fault", Edges.office(x, "know 7;turn 9 p=0;back 1 p=0|"), -39);
            Edges.due("office", Edges.office(x, "turn 5 p=0"), 0);
            Edges.due("feel", x.of(0, 6), 5);
            Edges.due("know", x.told(1), 3);
        });
        Edges.edge("by a FAULT the one that held holds, also behind good clauses", () -> {
            LostSheets x = Edges.with("know 5;turn 7 p=0", 0, 0, 0);
            Edges.due("fault", Edges.office(x, "know 1;turn 9 p=0;x"), -28);
            Edges.due("know", x.told(1), 5);
            Edges.due("feel", x.of(0, 6), 7);
            Edges.due("number of the next", Edges.office(x, "know 2"), 1);
        });
        Edges.edge("by a FAULT none holds where none held", () -> {
            LostSheets x = Edges.with("", 0, 0, 0);
            Edges.due("fault", Edges.office(x, "know 1;turn 9 p=0;x"), -28);
            Edges.due("know", x.told(1), 3);
            Edges.due("feel", x.of(0, 6), 0);
        });
    }

    private static void text() {
        Edges.edge("THE TEXT: 100 bytes are an OFFICE", () -> {
            LostSheets x = new LostSheets();
            Edges.due("bytes", HUNDRED.length(), 100);
            for (int i = 0; i < 100; i++) {
                Edges.due("feed " + i, x.feed(HUNDRED.charAt(i)), i + 1);
            }
            Edges.due("one more", x.feed(48), Edges.FULL);
            Edges.due("bytes", x.count(5), 100);
            Edges.due("office", x.office(), 0);
        });
        Edges.edge("THE TEXT: its 100th byte is read", () -> {
            // All but the last are of drawers 1 and 11; the last asks for 05, and would for 0 without its last byte.
            LostSheets x = Edges.with("", 0, 0, 0, 0, 0, 0, 0, 0, 0, 0, 0, 0, 0, 0, 0, 0, 0, 0);
            Edges.due("office", Edges.office(x, HUNDRED.substring(0, 96) + "p=05"), 0);
            Edges.due("five", x.of(5, 6), 1);
            Edges.due("none", x.of(0, 6), 0);
        });
        Edges.edge("feed: a sign (0 .. 127)", () -> {
            LostSheets x = new LostSheets();
            Edges.due("0", x.feed(0), 1);
            Edges.due("127", x.feed(127), 2);
            for (int sign : Edges.outside(0, 127)) {
                Edges.due("feed " + sign, x.feed(sign), Edges.BAD);
            }
            Edges.due("116 and 256", x.feed(116 + 256), Edges.BAD);
            Edges.due("bytes", x.count(5), 2);
        });
        Edges.edge("feed: a BAD sign does not come behind THE TEXT's", () -> {
            LostSheets x = new LostSheets();
            Edges.feed(x, "kno");
            Edges.due("128", x.feed(128), Edges.BAD);
            Edges.due("-1", x.feed(-1), Edges.BAD);
            Edges.due("office", Edges.office(x, "w 8"), 0);
            Edges.due("know", x.told(1), 8);
        });
        Edges.edge("feed: BAD ahead of FULL", () -> {
            LostSheets x = new LostSheets();
            Edges.feed(x, HUNDRED);
            Edges.due("below", x.feed(-1), Edges.BAD);
            Edges.due("above", x.feed(128), Edges.BAD);
            Edges.due("good", x.feed(127), Edges.FULL);
        });
        Edges.edge("feed: a FULL sign does not come, and behind an OFFICE there is room again", () -> {
            LostSheets x = new LostSheets();
            Edges.feed(x, HUNDRED);
            x.feed('x');
            Edges.due("office", x.office(), 0);
            Edges.due("feed", x.feed('k'), 1);
        });
    }

    private static void sixOffices() {
        Edges.edge("The newest OFFICE holds (6 at most)", () -> {
            LostSheets x = Edges.with("", 0, 0, 0);
            for (int i = 0; i < 6; i++) {
                Edges.due("number", Edges.office(x, "turn 1" + i + " p=0;know " + i), i);
                Edges.due("offices", x.count(1), i + 1);
                Edges.due("feel", x.of(0, 6), 10 + i);
                Edges.due("know", x.told(1), i);
            }
            Edges.due("the seventh", Edges.office(x, "know 9"), Edges.FULL);
            Edges.due("offices", x.count(1), 6);
            Edges.due("know", x.told(1), 5);
            Edges.due("feel", x.of(0, 6), 15);
        });
        Edges.edge("FULL: there are 6 (THE TEXT stays), ahead of the FAULT", () -> {
            LostSheets x = new LostSheets();
            for (int i = 0; i < 6; i++) {
                Edges.office(x, "know 1");
            }
            Edges.due("of an empty text", x.office(), Edges.FULL);
            Edges.due("of a fault", Edges.office(x, "xyz"), Edges.FULL);
            Edges.due("the text stays", x.count(5), 3);
            Edges.due("it goes on", x.feed('k'), 4);
            Edges.due("still", x.office(), Edges.FULL);
            Edges.due("it stays", x.count(5), 4);
        });
        Edges.edge("a FAULT is none of the 6", () -> {
            LostSheets x = new LostSheets();
            for (int i = 0; i < 6; i++) {
                Edges.due("fault", x.office(), -10);
                Edges.due("number", Edges.office(x, "know 1"), i);
            }
        });
        Edges.edge("without an OFFICE there are no CLAUSES", () -> {
            LostSheets x = Edges.with("", 0, 5, 0);
            Edges.due("feel", x.of(0, 6), 5);
            Edges.due("know", x.told(1), 3);
            Edges.due("offices", x.count(1), 0);
        });
    }

    private static int knowBy(String text) {
        LostSheets x = new LostSheets();
        Edges.due("office", Edges.office(x, text), 0);
        return x.told(1);
    }

    private static void know() {
        Edges.edge("KNOW (3 without): an OFFICE without know", () ->
            Edges.due("know", knowBy("turn 9 p=1"), 3));
        Edges.edge("KNOW (3 without): an OFFICE without know behind one with", () -> {
            LostSheets x = new LostSheets();
            Edges.office(x, "know 7");
            Edges.due("know", x.told(1), 7);
            Edges.office(x, "turn 9 p=1");
            Edges.due("know then", x.told(1), 3);
        });
        Edges.edge("KNOW: the last one's n", () -> {
            Edges.due("of two", knowBy("know 2;know 1"), 1);
            Edges.due("of three", knowBy("know 1;know 9;know 4"), 4);
            Edges.due("with others behind", knowBy("know 1;know 5;turn 8 p=1"), 5);
            Edges.due("with others ahead", knowBy("back 8 p=1;know 6"), 6);
        });
        Edges.edge("KNOW: n 0 .. 99", () -> {
            Edges.due("0", knowBy("know 0"), 0);
            Edges.due("00", knowBy("know 00"), 0);
            Edges.due("07", knowBy("know 07"), 7);
            Edges.due("99", knowBy("know 99"), 99);
        });
    }

    /** Whether this holds of the last of so many drawers: 1 or 0; or what it feels, if that is neither. */
    private static int holds(LostSheets x, int drawer, int without, String e) {
        Edges.due("office " + e, Edges.office(x, "turn 50 " + e), x.count(1) - 1);
        int feel = x.of(drawer, 6);
        return feel == without ? 0 : feel == without + 50 ? 1 : feel;
    }

    /** A TEST at, one below and one above what it asks; feeling without the office is told. */
    private static void asked(String call, LostSheets x, int drawer, int without, char letter, int value) {
        Edges.due(call + " =", holds(x, drawer, without, letter + "=" + value), 1);
        Edges.due(call + " <", holds(x, drawer, without, letter + "<" + value), 0);
        Edges.due(call + " < one above", holds(x, drawer, without, letter + "<" + (value + 1)), 1);
        Edges.due(call + " >", holds(x, drawer, without, letter + ">" + value), 0);
        if (value > 0) {
            Edges.due(call + " > one below", holds(x, drawer, without, letter + ">" + (value - 1)), 1);
        }
    }

    private static void otherwise(String call, LostSheets x, int drawer, int without, char letter, int value) {
        Edges.due(call + " = one above", holds(x, drawer, without, letter + "=" + (value + 1)), 0);
        Edges.due(call + " > one above", holds(x, drawer, without, letter + ">" + (value + 1)), 0);
        Edges.due(call + " < 99", holds(x, drawer, without, letter + "<99"), 1);
        Edges.due(call + " > 99", holds(x, drawer, without, letter + ">99"), 0);
        if (value > 0) {
            Edges.due(call + " = one below", holds(x, drawer, without, letter + "=" + (value - 1)), 0);
            Edges.due(call + " < one below", holds(x, drawer, without, letter + "<" + (value - 1)), 0);
        }
    }

    private static LostSheets six() {
        return Edges.with("", 0, 0, 0, 0, 9, 7, 0, 0, 8, 0, 0, 1, 0, 0, 2, 6, 0, 3);
    }

    private static void letters() {
        Object[][] cases = {{"p its number, 0", 0, 0, 'p', 0}, {"p its number, 5", 5, 0, 'p', 5},
            {"k its KIND, 0", 0, 0, 'k', 0}, {"k its KIND, 6", 5, 0, 'k', 6},
            {"v its v, 0", 0, 0, 'v', 0}, {"v its v, 9", 1, 9, 'v', 9},
            {"m the MARK of the CELL it is AT, 0", 2, 0, 'm', 0}, {"m the MARK of the CELL it is AT, 7", 1, 9, 'm', 7},
            {"s how many rows its SHEET has, none", 0, 0, 's', 0}, {"h HOUR modulo 10, 0", 0, 0, 'h', 0}};
        for (Object[] c : cases) {
            int drawer = (Integer) c[1], without = (Integer) c[2], value = (Integer) c[4];
            char letter = (Character) c[3];
            Edges.edge((String) c[0], () -> {
                asked((String) c[0], six(), drawer, without, letter, value);
                otherwise((String) c[0], six(), drawer, without, letter, value);
            });
        }
        Edges.edge("m the MARK of the CELL it is AT, as both are now", () -> {
            LostSheets x = six();
            x.put(0, 5);
            x.mark(5, 3);
            asked("m", x, 0, 0, 'm', 3);
        });
        Edges.edge("s how many rows its SHEET has, 8", () -> {
            LostSheets x = Edges.with("know 9", 0, 0, 0);
            x.pass(10);
            asked("s", x, 0, 0, 's', 8);
        });
        for (int hour : new int[] {9, 10, 19, 20, 101}) {
            Edges.edge("h HOUR modulo 10, at hour " + hour, () -> {
                LostSheets x = Edges.with("", 0, 0, 0);
                x.pass(hour > 60 ? 60 : hour);
                x.pass(hour > 60 ? hour - 60 : 0);
                asked("h", x, 0, hour % 10, 'h', hour % 10);
            });
        }
    }

    private static void sums() {
        Edges.edge("SUM: v and (HOUR modulo 10)", () -> {
            LostSheets x = Edges.with("", 0, 3, 0);
            Edges.due("hour 0", x.of(0, 6), 3);
            x.pass(9);
            Edges.due("hour 9", x.of(0, 6), 12);
            x.pass(1);
            Edges.due("hour 10", x.of(0, 6), 3);
            x.pass(1);
            Edges.due("hour 11", x.of(0, 6), 4);
        });
        Edges.edge("SUM: the n of all turn whose E holds, together", () ->
            Edges.due("feel", Edges.with("turn 99 p=0;turn 9 k=0;turn 50 p=1;turn 99 v=0", 0, 0, 0).of(0, 6), 207));
        Edges.edge("SUM: less those of all back (may be below 0)", () ->
            Edges.due("feel", Edges.with("back 99 p=0;back 9 k=0;back 50 p=1;turn 1 v=0;back 99 m=0", 0, 0, 0).of(0, 6),
                -206));
        Edges.edge("SUM: as many clauses as THE TEXT has room for", () -> Edges.due("feel", Edges.with(
            "know 1;know 2;know 3;turn 1 p=0;turn 2 p=0;turn 3 p=0;turn 4 p=0;turn 5 p=0;turn 6 p=0;turn 9 p=0",
            0, 0, 0).of(0, 6), 30));
    }

    private static void binding() {
        Object[][] cases = {{"!p=1&v=9", 0}, {"!p=1&v=0", 1}, {"!(p=1&v=9)", 1}, {"p=0|p=1&v=9", 1},
            {"(p=0|p=1)&v=9", 0}, {"v=9&p=1|p=0", 1}, {"v=9&(p=1|p=0)", 0}, {"!!p=0", 1}, {"!!!p=0", 0}, {"!!!!p=0", 1},
            {"((((p=0))))", 1}, {"((((p=1))))", 0}, {"!(!(p=0))", 1}, {"p=0&v=0&v=9", 0}, {"v=9|v=8|v=0", 1},
            {"v=9|v=8|v=7", 0}, {"p=0&v=0|v=9&v=8", 1}, {"p=1&v=0|v=9&v=8|m=0&p=0", 1},
            {"p=0|(v=9|(v=9|v=9&v=9))", 1}, {"p=0&(p=0&(p=0&(p=0&v=0)))", 1}, {"p=0&(p=0&(p=0&(p=0&v=9)))", 0},
            {"v=9|(v=9|(v=9|(v=9|v=0)))", 1}, {"v=9|(v=9|(v=9|(v=9|v=8)))", 0}, {"p=0|(v=9&(v=9|(v=9&v=9)))", 1},
            {"v=9&(p=0|(p=0&(p=0|p=0)))", 0}, {"!(p=0&!(v=9|v=0))", 1}};
        for (Object[] c : cases) {
            Edges.edge("E: T or T|E. T: F or F&T. F: !F, (E): " + c[0], () -> {
                LostSheets x = Edges.with("", 0, 0, 0);
                Edges.due("holds", holds(x, 0, 0, (String) c[0]), (Integer) c[1]);
            });
        }
    }

    public static void main(String[] args) {
        clauses();
        words();
        blanks();
        numbers();
        expressions();
        nesting();
        faultPlaces();
        text();
        sixOffices();
        know();
        letters();
        sums();
        binding();
        Edges.end("offices");
    }
}
