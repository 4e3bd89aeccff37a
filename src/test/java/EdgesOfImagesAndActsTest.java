/** The edges of THE IMAGE and undo, and of acts and THE TRACE. */
public final class EdgesOfImagesAndActsTest {
    private static void images() {
        Edges.edge("24 image: how many DRAWERS there are: none, six", () -> {
            LostSheets x = new LostSheets();
            Edges.due("none", x.image(), 0);
            Edges.due("undo", x.undo(), 0);
            for (int i = 0; i < 6; i++) {
                x.drawer(i, i, i);
            }
            Edges.due("six", x.image(), 6);
            Edges.due("undo", x.undo(), 6);
        });
        Edges.edge("25 undo: STATE: there is none, and nothing changes", () -> {
            LostSheets x = Edges.with("know 5", 0, 1, 5);
            x.mark(0, 6);
            x.pass(1);
            Edges.due("undo", x.undo(), Edges.STATE);
            Edges.due("drawers", x.count(0), 1);
            Edges.due("mark", x.told(10), 6);
            Edges.due("hour", x.told(0), 1);
            Edges.due("know", x.told(1), 5);
            Edges.due("rows", x.of(0, 3), 1);
        });
        Edges.edge("24 image: taking it changes nothing", () -> {
            LostSheets x = Edges.with("know 5", 0, 1, 5);
            x.pass(1);
            x.image();
            Edges.due("rows", x.of(0, 3), 1);
            Edges.due("hour", x.told(0), 1);
            x.pass(1);
            Edges.due("hour", x.told(0), 2);
        });
        Edges.edge("25 undo: THE IMAGE stays, and what comes behind it does not change it", () -> {
            LostSheets x = Edges.with("", 0, 0, 5);
            x.image();
            for (int times = 0; times < 3; times++) {
                x.pass(1 + times);
                x.mark(5, times);
                Edges.due("undo", x.undo(), 1);
                Edges.due("hour", x.told(0), 0);
                Edges.due("mark", x.told(15), 5);
                Edges.due("rows", x.of(0, 3), 0);
            }
        });
        Edges.edge("24 image: a second one takes the first one's place", () -> {
            LostSheets x = Edges.with("", 0, 0, 5);
            x.image();
            x.pass(1);
            x.image();
            x.pass(1);
            Edges.due("undo", x.undo(), 1);
            Edges.due("hour", x.told(0), 1);
            Edges.due("rows", x.of(0, 3), 1);
        });
    }

    private static void whatTheImageHolds() {
        Edges.edge("THE IMAGE: MARKS of CELLS", () -> {
            LostSheets x = new LostSheets();
            x.mark(0, 5);
            x.mark(15, 0);
            x.image();
            for (int c = 0; c < 16; c++) {
                x.mark(c, 3);
            }
            x.undo();
            int[] marks = {5, 1, 2, 3, 4, 5, 6, 7, 0, 1, 2, 3, 4, 5, 6, 0};
            for (int c = 0; c < 16; c++) {
                Edges.due("mark of " + c, x.told(10 + c), marks[c]);
            }
        });
        Edges.edge("THE IMAGE: DRAWN", () -> {
            LostSheets x = Edges.with("", 0, 3, 11);
            x.pass(1);
            x.image();
            x.put(0, 5);
            x.pass(1);
            Edges.due("drawn", x.told(2), 32768 + 2);
            x.undo();
            Edges.due("drawn", x.told(2), 32768);
        });
        Edges.edge("THE IMAGE: DRAWERS, and one that came behind it is none", () -> {
            LostSheets x = Edges.with("", 4, 7, 5);
            x.image();
            x.drawer(1, 1, 1);
            x.undo();
            Edges.due("how many", x.count(0), 1);
            Edges.due("second", x.of(1, 0), Edges.NONE_BELOW);
            Edges.due("kind", x.of(0, 0), 4);
            Edges.due("v", x.of(0, 1), 7);
            Edges.due("the next one's number", x.drawer(2, 3, 9), 1);
            Edges.due("its kind", x.of(1, 0), 2);
        });
        Edges.edge("THE IMAGE: one that came behind it is none: neither DONE, nor AT a CELL, nor has it DREW", () -> {
            LostSheets x = Edges.with("know 1", 3, 0, 0);
            x.image();
            for (int i = 1; i < 6; i++) {
                x.drawer(0, 0, 0);
            }
            x.pass(1);
            Edges.due("done", x.told(3), 63);
            Edges.due("drew of six", x.ends(1), 6);
            Edges.due("undo", x.undo(), 1);
            Edges.due("done", x.told(3), 0);
            Edges.due("feel of the lover", x.of(0, 6), 0);
            Edges.due("drew", x.ends(1), 0);
            Edges.due("mean above", x.mean(1, 0), 1);
            Edges.due("mean below", x.mean(1, 1), 1);
            Edges.due("done behind 1", x.on(1, 1), 1);
            Edges.due("where the second is", x.on(1, 11), Edges.NONE);
            Edges.due("crew", x.best(1, 0), 1);
        });
        Edges.edge("THE IMAGE: a DRAWER that comes behind an undo has nothing of the one before", () -> {
            LostSheets x = Edges.with("know 1", new int[0]);
            x.image();
            x.drawer(6, 9, 5);
            for (int part = 0; part < 4; part++) {
                x.row(0, part, 9);
            }
            x.pass(1);
            x.undo();
            x.drawer(6, 0, 0);
            Edges.due("rows", x.of(0, 3), 0);
            Edges.due("done", x.of(0, 4), 0);
            Edges.due("drew", x.of(0, 5), 0);
            Edges.due("feel", x.of(0, 6), 0);
            for (int part = 0; part < 4; part++) {
                Edges.due("row " + part, x.row(0, part, 0), 0);
            }
        });
        Edges.edge("THE IMAGE: where a DRAWER is AT", () -> {
            LostSheets x = Edges.with("", 0, 0, 5);
            x.image();
            x.put(0, 15);
            x.undo();
            Edges.due("at", x.of(0, 2), 5);
        });
        Edges.edge("THE IMAGE: a DRAWER's SHEET", () -> {
            LostSheets x = Edges.with("know 9", 0, 0, 5);
            x.pass(8);
            x.image();
            x.anew(0);
            x.put(0, 15);
            x.pass(8);
            x.undo();
            int[] rows = {1, 10, 21, 35, 1, 10, 21, 35};
            Edges.due("how many", x.of(0, 3), 8);
            for (int i = 0; i < 8; i++) {
                Edges.due("row " + i, x.sheet(0, i), rows[i]);
            }
        });
        Edges.edge("THE IMAGE: that a DRAWER is DONE, or not", () -> {
            LostSheets x = Edges.with("know 1", 0, 0, 5, 0, 1, 9);
            x.pass(1);
            x.anew(1);
            x.image();
            x.anew(0);
            x.pass(1);
            Edges.due("done", x.told(3), 3);
            x.anew(0);
            x.undo();
            Edges.due("done", x.told(3), 1);
        });
        Edges.edge("THE IMAGE: what a DRAWER DREW", () -> {
            LostSheets x = Edges.with("know 9", 0, 0, 5);
            x.pass(8);
            x.image();
            x.anew(0);
            x.pass(5);
            Edges.due("drew", x.of(0, 5), 13);
            x.undo();
            Edges.due("drew", x.of(0, 5), 8);
        });
        Edges.edge("THE IMAGE: a TOLD one's ROW", () -> {
            LostSheets x = Edges.with("", 6, 0, 5);
            for (int part = 0; part < 4; part++) {
                x.row(0, part, 2 + part);
            }
            x.image();
            for (int part = 0; part < 4; part++) {
                x.row(0, part, 9);
            }
            x.undo();
            for (int part = 0; part < 4; part++) {
                Edges.due("part " + part, x.row(0, part, 0), 2 + part);
            }
        });
        Edges.edge("THE IMAGE: HOUR", () -> {
            LostSheets x = new LostSheets();
            x.pass(7);
            x.image();
            x.pass(60);
            x.undo();
            Edges.due("hour", x.told(0), 7);
            Edges.due("it goes on", x.pass(1), 8);
        });
    }

    private static void whatWasToldByHand() {
        Edges.edge("THE IMAGE: SEEN", () -> {
            LostSheets x = Edges.steady(0, 0, 5);
            x.see(0, 0, 5);
            x.image();
            x.see(0, 1, 1);
            x.see(-1, 0, 0);
            x.see(0, 0, 6);
            x.see(0, 0, 7);
            x.undo();
            Edges.due("how many", x.count(2), 1);
            Edges.due("places", x.of(0, 11), 32 + 8192);
        });
        Edges.edge("THE IMAGE: the PLAN", () -> {
            LostSheets x = Edges.with("", 0, 0, 5);
            x.plan(0, 0);
            x.image();
            x.plan(-1, 0);
            x.plan(3, 0);
            x.plan(3, 0);
            x.undo();
            Edges.due("how many", x.count(3), 1);
            Edges.due("drew", x.ends(1), 1);
        });
        Edges.edge("THE IMAGE: the BOOK", () -> {
            LostSheets x = new LostSheets();
            x.book(3, 3);
            x.book(4, 5);
            x.image();
            x.book(-1, 0);
            x.book(0, 1);
            x.undo();
            Edges.due("how many", x.count(4), 2);
            Edges.due("looked", x.looked(), 1);
        });
        Edges.edge("THE IMAGE: nothing SEEN, planned or booked", () -> {
            LostSheets x = Edges.with("", 0, 0, 5);
            x.image();
            x.see(0, 0, 0);
            x.plan(0, 0);
            x.book(0, 5);
            x.undo();
            Edges.due("how many", x.count(2) + x.count(3) + x.count(4), 0);
            Edges.due("places", x.of(0, 11), Edges.ALL);
            Edges.due("ends", x.ends(1), 0);
            Edges.due("looked", x.looked(), Edges.NEVER);
        });
        Edges.edge("THE IMAGE: which OFFICE holds", () -> {
            LostSheets x = Edges.with("know 7;turn 5 p=0", 0, 0, 5);
            x.image();
            Edges.due("second", Edges.office(x, "know 1;turn 9 p=0"), 1);
            x.undo();
            Edges.due("know", x.told(1), 7);
            Edges.due("feel", x.of(0, 6), 5);
            Edges.due("offices", x.count(1), 2);
            Edges.due("third", Edges.office(x, "know 2"), 2);
            Edges.due("the newest holds", x.told(1), 2);
        });
        Edges.edge("THE IMAGE: that no OFFICE holds", () -> {
            LostSheets x = Edges.with("", 0, 4, 5);
            x.image();
            Edges.office(x, "know 1;turn 9 p=0");
            x.undo();
            Edges.due("know", x.told(1), 3);
            Edges.due("feel", x.of(0, 6), 4);
            Edges.due("offices", x.count(1), 1);
        });
        Edges.edge("THE IMAGE: no OFFICE is away by an undo, there are 6 still", () -> {
            LostSheets x = new LostSheets();
            x.image();
            for (int i = 0; i < 6; i++) {
                Edges.office(x, "know " + i);
            }
            x.undo();
            Edges.due("offices", x.count(1), 6);
            Edges.due("the seventh", Edges.office(x, "know 9"), Edges.FULL);
            Edges.due("know", x.told(1), 3);
        });
        Edges.edge("THE IMAGE: no TEXT, TAPES or TRACE in it", () -> {
            LostSheets x = Edges.with("", 0, 0, 5);
            x.image();
            Edges.feed(x, "know");
            x.tape(0, 2, 3);
            x.item(0, 1, 77);
            x.act(0, 1, 0);
            x.undo();
            Edges.due("text", x.count(5), 4);
            Edges.due("tape", x.read(0, 1), 77);
            Edges.due("bodies", x.count(6), 2);
            Edges.due("trace", x.trace(0), 11);
            Edges.due("office", Edges.office(x, " 8"), 0);
            Edges.due("know", x.told(1), 8);
        });
    }

    /** An act, what it answers and the bodies that ran. */
    private static void acted(LostSheets x, int drawer, int act, int in, int out, int... bodies) {
        String call = "act " + drawer + " " + act + " " + in;
        Edges.due(call, x.act(drawer, act, in), out);
        Edges.due(call + " how many", x.count(6), bodies.length);
        for (int i = 0; i < bodies.length; i++) {
            Edges.due(call + " trace " + i, x.trace(i), bodies[i]);
        }
        for (int i : new int[] {Edges.LEAST, -1, bodies.length, 19, 20, 21, Edges.MOST}) {
            Edges.due(call + " trace " + i, x.trace(i), Edges.NONE);
        }
    }

    private static void wrapping() {
        Edges.edge("ACTS with x (wrapping): x + i", () ->
            acted(Edges.with("", 0, 0, 0, 0, 0, 0), 1, 0, Edges.MOST, Edges.LEAST, 10));
        Edges.edge("ACTS with x (wrapping): weeps(x) - v", () ->
            acted(Edges.with("", 0, 1, 0), 0, 1, Edges.LEAST, Edges.MOST, 11, 10));
        Edges.edge("ACTS with x (wrapping): draws(x) * 2", () ->
            acted(Edges.with("", 0, 0, 0), 0, 2, 1 << 30, Edges.LEAST, 12, 11, 10));
        Edges.edge("ACTS with x (wrapping): super.draws(x) ^ 6, below 0", () ->
            acted(Edges.with("", 1, 0, 0), 0, 1, -1, -7, 20, 11, 10));
        Edges.edge("ACTS with x (wrapping): super.weeps(x * 3)", () ->
            acted(Edges.with("", 2, 0, 0), 0, 0, Edges.MOST, 2147483645, 30, 10));
        Edges.edge("ACTS with x (wrapping): super.tells(x) + draws(1)", () ->
            acted(Edges.with("", 0, 0, 0, 0, 0, 0, 3, 0, 0), 2, 2, (1 << 30) - 3, -2147483647, 40, 12, 11, 10, 11, 10));
        Edges.edge("ACTS with x (wrapping): -super.weeps(x)", () ->
            acted(Edges.with("", 4, 0, 0), 0, 0, Edges.LEAST, Edges.LEAST, 50, 10));
        Edges.edge("ACTS with x (wrapping): super.draws(x + 1)", () ->
            acted(Edges.with("", 4, 0, 0), 0, 1, Edges.MOST, -2147483642, 51, 20, 11, 50, 10));
        Edges.edge("ACTS with x (wrapping): super.tells(x - i)", () ->
            acted(Edges.with("", 0, 0, 0, 0, 0, 0, 0, 0, 0, 0, 0, 0, 0, 0, 0, 5, 0, 0), 5, 2, Edges.LEAST, -20,
                60, 12, 11, 30, 10));
        Edges.edge("ACTS with x (wrapping): super.weeps(x) ^ v, super.draws(x) + super.weeps(2)", () ->
            acted(Edges.with("", 6, 7, 0), 0, 1, Edges.LEAST + 7, 2147483643, 70, 11, 71, 10, 10));
    }

    private static void bodies() {
        Object[][] cases = {
            {"DRAWER weeps", 0, 0, 5, new int[] {10}}, {"DRAWER draws", 0, 1, 2, new int[] {11, 10}},
            {"DRAWER tells", 0, 2, 4, new int[] {12, 11, 10}},
            {"CLERK weeps", 1, 0, 5, new int[] {10}}, {"CLERK draws", 1, 1, 4, new int[] {20, 11, 10}},
            {"CLERK tells", 1, 2, 8, new int[] {12, 20, 11, 10}},
            {"CHILD weeps", 2, 0, 15, new int[] {30, 10}}, {"CHILD draws", 2, 1, 12, new int[] {11, 30, 10}},
            {"CHILD tells", 2, 2, 24, new int[] {12, 11, 30, 10}},
            {"LOVER weeps", 3, 0, 5, new int[] {10}}, {"LOVER draws", 3, 1, 2, new int[] {11, 10}},
            {"LOVER tells", 3, 2, 2, new int[] {40, 12, 11, 10, 11, 10}},
            {"GENERAL weeps", 4, 0, -5, new int[] {50, 10}},
            {"GENERAL draws", 4, 1, -15, new int[] {51, 20, 11, 50, 10}},
            {"GENERAL tells", 4, 2, -30, new int[] {12, 51, 20, 11, 50, 10}},
            {"SHEPHERD weeps", 5, 0, 15, new int[] {30, 10}}, {"SHEPHERD draws", 5, 1, 12, new int[] {11, 30, 10}},
            {"SHEPHERD tells", 5, 2, 24, new int[] {60, 12, 11, 30, 10}},
            {"TOLD weeps", 6, 0, 6, new int[] {71, 10}}, {"TOLD draws", 6, 1, 5, new int[] {70, 11, 71, 10, 10}},
            {"TOLD tells", 6, 2, 11, new int[] {40, 12, 70, 11, 71, 10, 10, 70, 11, 71, 10, 10}}};
        for (Object[] c : cases) {
            Edges.edge("26 act and 27 trace, as the bodies began: " + c[0], () ->
                acted(Edges.with("", (Integer) c[1], 3, 0), 0, (Integer) c[2], 5, (Integer) c[3], (int[]) c[4]));
        }
    }

    private static void refused() {
        Edges.edge("27 trace: NONE, where none has acted", () -> {
            LostSheets x = Edges.with("", 0, 0, 0);
            for (int i : new int[] {Edges.LEAST, -1, 0, 1, 19, 20, Edges.MOST}) {
                Edges.due("trace " + i, x.trace(i), Edges.NONE);
            }
        });
        Edges.edge("26 act: 0, and no TRACE then: no such DRAWER", () -> {
            LostSheets x = Edges.with("", 0, 0, 0);
            for (int drawer : Edges.outside(0, 0)) {
                acted(x, 0, 2, 5, 10, 12, 11, 10);
                acted(x, drawer, 2, 5, 0);
            }
        });
        Edges.edge("26 act: 0, and no TRACE then: no such act", () -> {
            LostSheets x = Edges.with("", 0, 0, 0);
            for (int act : Edges.outside(0, 2)) {
                acted(x, 0, 2, 5, 10, 12, 11, 10);
                acted(x, 0, act, 5, 0);
            }
        });
        Edges.edge("26 act: 0, and no TRACE then: no such act, of any KIND", () -> {
            for (int kind = 0; kind < 7; kind++) {
                LostSheets x = Edges.with("", kind, 3, 0);
                for (int act : Edges.outside(0, 2)) {
                    acted(x, 0, act, 5, 0);
                }
            }
        });
        Edges.edge("THE TRACE: of the latest act() alone", () -> {
            LostSheets x = Edges.with("", 6, 0, 0);
            Edges.due("tells", x.act(0, 2, 0), 7);
            acted(x, 0, 0, 4, 4, 71, 10);
        });
        Edges.edge("26 act: nothing but THE TRACE changes", () -> {
            LostSheets x = Edges.with("", 6, 3, 5);
            x.act(0, 1, 7);
            int[] due = {6, 3, 5, 0, 0, 0, 3, 3, Edges.ALL, Edges.ALL, 0, Edges.ALL};
            for (int what = 0; what < 12; what++) {
                Edges.due("of " + what, x.of(0, what), due[what]);
            }
            Edges.due("drawn", x.told(2), 0);
            Edges.due("hour", x.told(0), 0);
        });
    }

    public static void main(String[] args) {
        images();
        whatTheImageHolds();
        whatWasToldByHand();
        wrapping();
        bodies();
        refused();
        Edges.end("images and acts");
    }
}
