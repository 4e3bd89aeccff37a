/** The edges of each call but those of texts and tapes: every range, every refusal, and which of two comes first. */
public final class EdgesOfCallsTest {
    private static void constants() {
        Edges.edge("the constants", () -> {
            Edges.due("NONE", LostSheets.NONE, -1);
            Edges.due("BAD", LostSheets.BAD, -2);
            Edges.due("STATE", LostSheets.STATE, -3);
            Edges.due("FULL", LostSheets.FULL, -4);
            Edges.due("NO", LostSheets.NO, -9223372036854775808L);
        });
    }

    private static void newObject() {
        Edges.edge("1 a new object: no DRAWERS, no OFFICE, nothing told", () -> {
            LostSheets x = new LostSheets();
            for (int what = 0; what < 7; what++) {
                Edges.due("count " + what, x.count(what), 0);
            }
        });
        Edges.edge("1 a new object: no IMAGE, no TRACE, TAPES hold nothing", () -> {
            LostSheets x = new LostSheets();
            Edges.due("undo", x.undo(), Edges.STATE);
            Edges.due("trace", x.trace(0), Edges.NONE);
            for (int t = 0; t < 6; t++) {
                Edges.due("read", x.read(t, 0), Edges.NO);
                Edges.due("item", x.item(t, 0, 1), Edges.NOTHING);
            }
        });
        Edges.edge("1 a new object has nothing of another one", () -> {
            LostSheets one = Edges.with("know 9;turn 5 p=0", 0, 0, 0);
            LostSheets other = new LostSheets();
            one.mark(0, 7);
            one.pass(5);
            one.see(0, 0, 0);
            one.tape(0, 0, 1);
            one.act(0, 0, 0);
            one.image();
            LostSheets third = new LostSheets();
            for (LostSheets x : new LostSheets[] {other, third}) {
                Edges.due("mark", x.told(10), 0);
                Edges.due("hour", x.told(0), 0);
                Edges.due("know", x.told(1), 3);
                Edges.due("counts", x.count(0) + x.count(1) + x.count(2) + x.count(6), 0);
                Edges.due("tape", x.read(0, 0), Edges.NO);
                Edges.due("image", x.undo(), Edges.STATE);
            }
        });
    }

    private static LostSheets sixDrawers() {
        return Edges.with("", 0, 0, 0, 1, 1, 1, 2, 2, 2, 3, 3, 3, 4, 4, 4, 6, 5, 5);
    }

    private static void drawer() {
        Edges.edge("2 drawer: NONE: kind", () -> {
            LostSheets x = new LostSheets();
            for (int kind : Edges.outside(0, 6)) {
                Edges.due("kind " + kind, x.drawer(kind, 0, 0), Edges.NONE);
            }
            Edges.due("none came", x.count(0), 0);
        });
        Edges.edge("2 drawer: NONE: cell", () -> {
            LostSheets x = new LostSheets();
            for (int cell : Edges.outside(0, 15)) {
                Edges.due("cell " + cell, x.drawer(0, 0, cell), Edges.NONE);
            }
            Edges.due("none came", x.count(0), 0);
        });
        Edges.edge("2 drawer: BAD: v", () -> {
            LostSheets x = new LostSheets();
            for (int v : Edges.outside(0, 9)) {
                Edges.due("v " + v, x.drawer(0, v, 0), Edges.BAD);
            }
            Edges.due("none came", x.count(0), 0);
        });
        Edges.edge("2 drawer: FULL: 6", () -> {
            LostSheets x = sixDrawers();
            Edges.due("the seventh", x.drawer(0, 0, 0), Edges.FULL);
            Edges.due("six", x.count(0), 6);
            Edges.due("no seventh", x.of(6, 0), Edges.NONE_BELOW);
        });
        Edges.edge("2 drawer: NONE by kind ahead of BAD", () ->
            Edges.due("drawer", new LostSheets().drawer(7, 10, 0), Edges.NONE));
        Edges.edge("2 drawer: NONE by cell ahead of BAD", () ->
            Edges.due("drawer", new LostSheets().drawer(0, -1, 16), Edges.NONE));
        Edges.edge("2 drawer: NONE ahead of FULL", () -> {
            LostSheets x = sixDrawers();
            Edges.due("kind", x.drawer(-1, 0, 0), Edges.NONE);
            Edges.due("cell", x.drawer(0, 0, 16), Edges.NONE);
        });
        Edges.edge("2 drawer: BAD ahead of FULL", () -> Edges.due("drawer", sixDrawers().drawer(0, 10, 0), Edges.BAD));
    }

    private static void of() {
        Edges.edge("3 of: NONE (-10001): no such DRAWER", () -> {
            LostSheets x = Edges.with("", 0, 0, 0);
            for (int drawer : Edges.outside(0, 0)) {
                for (int what = 0; what < 12; what++) {
                    Edges.due("of " + drawer + " " + what, x.of(drawer, what), Edges.NONE_BELOW);
                }
            }
        });
        Edges.edge("3 of: NONE (-10001): no such what", () -> {
            LostSheets x = Edges.with("", 0, 0, 0);
            for (int what : Edges.outside(0, 11)) {
                Edges.due("what " + what, x.of(0, what), Edges.NONE_BELOW);
            }
        });
        Edges.edge("3 of: what 0 to 11 of the last of six", () -> {
            LostSheets x = sixDrawers();
            int[] due = {6, 5, 5, 0, 0, 0, 5, 1, Edges.ALL, Edges.ALL, 0, Edges.ALL};
            for (int what = 0; what < 12; what++) {
                Edges.due("what " + what, x.of(5, what), due[what]);
            }
        });
        Edges.edge("3 of: LOOK (-5), not NONE", () -> {
            LostSheets x = Edges.with("", 0, 0, 5);
            x.pass(1);
            x.mark(1, 0);
            x.mark(9, 0);
            Edges.due("look", x.of(0, 10), Edges.NEVER);
        });
    }

    private static void sheet() {
        Edges.edge("4 sheet: 10 times the WAY and the MARK", () -> {
            LostSheets x = Edges.with("", 0, 3, 11, 0, 0, 0);
            x.pass(1);
            Edges.due("down to 15", x.sheet(0, 0), 37);
            Edges.due("up at 0", x.sheet(1, 0), 0);
        });
        Edges.edge("4 sheet: NONE: no such row", () -> {
            LostSheets x = Edges.with("", 0, 0, 5);
            x.pass(2);
            Edges.due("the last one", x.sheet(0, 1), 10);
            for (int i : Edges.outside(0, 1)) {
                Edges.due("row " + i, x.sheet(0, i), Edges.NONE);
            }
        });
        Edges.edge("4 sheet: NONE: row 8 of eight", () -> {
            LostSheets x = Edges.with("know 9", 0, 0, 5);
            x.pass(8);
            Edges.due("row 7", x.sheet(0, 7), 35);
            Edges.due("row 8", x.sheet(0, 8), Edges.NONE);
        });
        Edges.edge("4 sheet: NONE: no such DRAWER", () -> {
            LostSheets x = Edges.with("", 0, 0, 5);
            x.pass(1);
            for (int drawer : Edges.outside(0, 0)) {
                Edges.due("drawer " + drawer, x.sheet(drawer, 0), Edges.NONE);
            }
        });
    }

    private static void putAndAnew() {
        Edges.edge("5 put: where it was, CELLS 0 and 15", () -> {
            LostSheets x = Edges.with("", 0, 0, 5);
            Edges.due("put", x.put(0, 15), 5);
            Edges.due("put", x.put(0, 0), 15);
            Edges.due("put where it is", x.put(0, 0), 0);
            Edges.due("nothing drawn", x.told(2), 0);
        });
        Edges.edge("5 put: NONE: cell", () -> {
            LostSheets x = Edges.with("", 0, 0, 5);
            for (int cell : Edges.outside(0, 15)) {
                Edges.due("cell " + cell, x.put(0, cell), Edges.NONE);
            }
            Edges.due("at", x.of(0, 2), 5);
        });
        Edges.edge("5 put: NONE: drawer", () -> {
            LostSheets x = Edges.with("", 0, 0, 5);
            for (int drawer : Edges.outside(0, 0)) {
                Edges.due("drawer " + drawer, x.put(drawer, 0), Edges.NONE);
            }
        });
        Edges.edge("5 put: its SHEET, and that it is DONE, stay", () -> {
            LostSheets x = Edges.with("know 1", 0, 0, 5);
            x.pass(1);
            x.put(0, 9);
            Edges.due("rows", x.of(0, 3), 1);
            Edges.due("done", x.of(0, 4), 1);
        });
        Edges.edge("6 anew: how many rows it had: none", () -> Edges.due("anew", Edges.with("", 0, 0, 5).anew(0), 0));
        Edges.edge("6 anew: how many rows it had: 8, and it goes on", () -> {
            LostSheets x = Edges.with("know 9", 0, 0, 0);
            x.pass(60);
            Edges.due("anew", x.anew(0), 8);
            Edges.due("rows", x.of(0, 3), 0);
            Edges.due("row 0", x.sheet(0, 0), Edges.NONE);
            Edges.due("again", x.anew(0), 0);
            x.pass(1);
            Edges.due("rows then", x.of(0, 3), 1);
        });
        Edges.edge("6 anew: it is not DONE; where it is AT, DREW and DRAWN stay", () -> {
            LostSheets x = Edges.with("know 1", 0, 0, 5);
            x.pass(1);
            Edges.due("anew", x.anew(0), 1);
            Edges.due("done", x.of(0, 4), 0);
            Edges.due("bits", x.told(3), 0);
            Edges.due("at", x.of(0, 2), 1);
            Edges.due("drew", x.of(0, 5), 1);
            Edges.due("drawn", x.told(2), 2);
        });
        Edges.edge("6 anew: NONE", () -> {
            LostSheets x = Edges.with("", 0, 0, 5);
            x.pass(1);
            for (int drawer : Edges.outside(0, 0)) {
                Edges.due("drawer " + drawer, x.anew(drawer), Edges.NONE);
            }
            Edges.due("rows", x.of(0, 3), 1);
        });
    }

    private static void markAndRow() {
        Edges.edge("7 mark: NONE: cell", () -> {
            LostSheets x = new LostSheets();
            for (int cell : Edges.outside(0, 15)) {
                Edges.due("cell " + cell, x.mark(cell, 0), Edges.NONE);
            }
        });
        Edges.edge("7 mark: BAD: n", () -> {
            LostSheets x = new LostSheets();
            for (int n : Edges.outside(0, 7)) {
                Edges.due("n " + n, x.mark(15, n), Edges.BAD);
            }
            Edges.due("mark", x.told(25), 7);
        });
        Edges.edge("7 mark: NONE ahead of BAD", () -> {
            Edges.due("above", new LostSheets().mark(16, 8), Edges.NONE);
            Edges.due("below", new LostSheets().mark(-1, -1), Edges.NONE);
        });
        Edges.edge("7 mark: what it was, of that CELL alone", () -> {
            LostSheets x = new LostSheets();
            Edges.due("cell 0", x.mark(0, 7), 0);
            Edges.due("cell 15", x.mark(15, 0), 7);
            Edges.due("cell 0 then", x.mark(0, 0), 7);
            Edges.due("cell 8", x.told(18), 0);
            Edges.due("cell 7", x.told(17), 7);
        });
        Edges.edge("8 row: n (0 .. 9) for parts 0 .. 3: what it was", () -> {
            LostSheets x = Edges.with("", 6, 0, 0);
            for (int part = 0; part < 4; part++) {
                Edges.due("part " + part, x.row(0, part, 9 - part), 0);
            }
            for (int part = 0; part < 4; part++) {
                Edges.due("part " + part, x.row(0, part, 0), 9 - part);
            }
        });
        Edges.edge("8 row: NONE: drawer", () -> {
            LostSheets x = Edges.with("", 6, 0, 0);
            for (int drawer : Edges.outside(0, 0)) {
                Edges.due("drawer " + drawer, x.row(drawer, 0, 0), Edges.NONE);
            }
        });
        Edges.edge("8 row: NONE: part", () -> {
            LostSheets x = Edges.with("", 6, 0, 0);
            for (int part : Edges.outside(0, 3)) {
                Edges.due("part " + part, x.row(0, part, 1), Edges.NONE);
            }
        });
        Edges.edge("8 row: BAD: n", () -> {
            LostSheets x = Edges.with("", 6, 0, 0);
            for (int n : Edges.outside(0, 9)) {
                Edges.due("n " + n, x.row(0, 3, n), Edges.BAD);
            }
            Edges.due("it was", x.row(0, 3, 1), 0);
        });
        for (int k = 0; k < 6; k++) {
            int kind = k;
            Edges.edge("8 row: STATE: another KIND, " + kind, () ->
                Edges.due("row", Edges.with("", kind, 0, 0).row(0, 0, 0), Edges.STATE));
        }
        Edges.edge("8 row: NONE ahead of BAD and STATE", () -> {
            LostSheets x = Edges.with("", 0, 0, 0, 6, 0, 0);
            Edges.due("drawer and n", x.row(2, 0, 10), Edges.NONE);
            Edges.due("part and n", x.row(1, 4, 10), Edges.NONE);
            Edges.due("part and kind", x.row(0, 4, 0), Edges.NONE);
        });
        Edges.edge("8 row: BAD ahead of STATE", () -> {
            LostSheets x = Edges.with("", 3, 0, 0);
            Edges.due("above", x.row(0, 0, 10), Edges.BAD);
            Edges.due("below", x.row(0, 0, -1), Edges.BAD);
        });
    }

    private static void told() {
        Edges.edge("11 told: NONE: below 0, 5 .. 9, 26 .. 29, 46 and above", () -> {
            LostSheets x = Edges.with("", 0, 0, 0);
            for (int what : new int[] {Edges.LEAST, -1, 5, 6, 7, 8, 9, 26, 27, 28, 29, 46, 47, 100, Edges.MOST}) {
                Edges.due("told " + what, x.told(what), Edges.NONE);
            }
        });
        Edges.edge("11 told: 10 and c: c 0 and 15", () -> {
            LostSheets x = new LostSheets();
            x.mark(0, 6);
            x.mark(15, 5);
            Edges.due("10", x.told(10), 6);
            Edges.due("25", x.told(25), 5);
        });
        Edges.edge("11 told: 30 and c: c 0 and 15, without drawers", () -> {
            LostSheets x = new LostSheets();
            Edges.due("30", x.told(30), 255);
            Edges.due("45", x.told(45), 255);
        });
        Edges.edge("11 told: who is DONE (bits): the first and the last of six", () -> {
            LostSheets x = Edges.with("know 1", 0, 0, 0);
            x.pass(1);
            for (int i = 1; i < 6; i++) {
                x.drawer(0, 0, i);
            }
            Edges.due("the first", x.told(3), 1);
            x.pass(1);
            Edges.due("all", x.told(3), 63);
            for (int i = 0; i < 5; i++) {
                x.anew(i);
            }
            Edges.due("the last", x.told(3), 32);
        });
    }

    private static void pass() {
        Edges.edge("12 pass: n HOURS (0 .. 60)", () -> {
            LostSheets x = Edges.with("", 0, 0, 5);
            Edges.due("0", x.pass(0), 0);
            Edges.due("at", x.of(0, 2), 5);
            Edges.due("60", x.pass(60), 60);
            for (int n : Edges.outside(0, 60)) {
                Edges.due("n " + n, x.pass(n), Edges.BAD);
            }
            Edges.due("hour", x.told(0), 60);
        });
        Edges.edge("12 pass: STATE: it would be above 9999", () -> {
            LostSheets x = new LostSheets();
            for (int i = 0; i < 166; i++) {
                x.pass(60);
            }
            Edges.due("60 from 9960", x.pass(60), Edges.STATE);
            Edges.due("40 from 9960", x.pass(40), Edges.STATE);
            Edges.due("38 from 9960", x.pass(38), 9998);
            Edges.due("2 from 9998", x.pass(2), Edges.STATE);
            Edges.due("hour", x.told(0), 9998);
            Edges.due("1 from 9998", x.pass(1), 9999);
            Edges.due("1 from 9999", x.pass(1), Edges.STATE);
            Edges.due("0 from 9999", x.pass(0), 9999);
        });
        Edges.edge("12 pass: BAD ahead of STATE", () -> {
            LostSheets x = new LostSheets();
            Edges.toTheLastHour(x);
            Edges.due("above", x.pass(61), Edges.BAD);
            Edges.due("far above", x.pass(Edges.MOST), Edges.BAD);
            Edges.due("below", x.pass(-1), Edges.BAD);
        });
        Edges.edge("12 pass: by STATE no HOUR goes", () -> {
            LostSheets x = new LostSheets();
            Edges.toTheLastHour(x);
            x.drawer(0, 0, 5);
            Edges.due("1", x.pass(1), Edges.STATE);
            Edges.due("at", x.of(0, 2), 5);
            Edges.due("rows", x.of(0, 3), 0);
            Edges.due("hour", x.told(0), 9999);
        });
        Edges.edge("12 pass: hours one by one or together are alike", () -> {
            LostSheets one = Edges.with("know 4", 3, 1, 5, 6, 2, 6, 5, 3, 9);
            LostSheets other = Edges.with("know 4", 3, 1, 5, 6, 2, 6, 5, 3, 9);
            for (int i = 0; i < 12; i++) {
                one.pass(1);
            }
            other.pass(12);
            for (int d = 0; d < 3; d++) {
                for (int what = 0; what < 12; what++) {
                    Edges.due("of " + d + " " + what, one.of(d, what), other.of(d, what));
                }
            }
            Edges.due("drawn", one.told(2), other.told(2));
        });
    }

    private static void onAndBest() {
        Edges.edge("13 on: NONE: what: below 0, 2 .. 9, beyond the drawers", () -> {
            LostSheets x = Edges.with("", 0, 0, 5, 0, 1, 6);
            for (int what : new int[] {Edges.LEAST, -1, 2, 3, 8, 9, 12, 13, 15, 16, Edges.MOST}) {
                Edges.due("what " + what, x.on(1, what), Edges.NONE);
            }
            Edges.due("10", x.on(0, 10), 5);
            Edges.due("11", x.on(0, 11), 6);
        });
        Edges.edge("13 on: NONE: 16 with six drawers", () -> {
            LostSheets x = sixDrawers();
            Edges.due("15", x.on(0, 15), 5);
            Edges.due("16", x.on(0, 16), Edges.NONE);
        });
        Edges.edge("13 on: BAD: n", () -> {
            LostSheets x = Edges.with("", 0, 0, 5);
            for (int n : Edges.outside(0, 60)) {
                Edges.due("drawn " + n, x.on(n, 0), Edges.BAD);
                Edges.due("done " + n, x.on(n, 1), Edges.BAD);
                Edges.due("at " + n, x.on(n, 10), Edges.BAD);
            }
        });
        Edges.edge("13 on: NONE ahead of BAD", () -> {
            LostSheets x = Edges.with("", 0, 0, 5);
            Edges.due("what 2", x.on(61, 2), Edges.NONE);
            Edges.due("what -1", x.on(-1, -1), Edges.NONE);
            Edges.due("drawer 1", x.on(-1, 11), Edges.NONE);
        });
        Edges.edge("14 best: NONE: what: below 0, 1 .. 9, beyond the drawers", () -> {
            LostSheets x = Edges.with("", 0, 0, 5);
            for (int what : new int[] {Edges.LEAST, -1, 1, 2, 9, 11, 12, Edges.MOST}) {
                Edges.due("what " + what, x.best(1, what), Edges.NONE);
            }
        });
        Edges.edge("14 best: BAD: n (1 .. 12)", () -> {
            LostSheets x = Edges.with("", 0, 0, 5);
            for (int n : Edges.outside(1, 12)) {
                Edges.due("crew " + n, x.best(n, 0), Edges.BAD);
                Edges.due("landing " + n, x.best(n, 10), Edges.BAD);
            }
        });
        Edges.edge("14 best: NONE ahead of BAD", () -> {
            LostSheets x = Edges.with("", 0, 0, 5);
            Edges.due("what 1", x.best(0, 1), Edges.NONE);
            Edges.due("drawer 1", x.best(13, 11), Edges.NONE);
        });
    }

    private static LostSheets fiveSeen() {
        LostSheets x = Edges.steady(0, 0, 5);
        for (int i = 1; i <= 5; i++) {
            Edges.due("see", x.see(0, 0, 5), i);
        }
        return x;
    }

    private static void see() {
        Edges.edge("15 see: NONE: drawer", () -> {
            LostSheets x = Edges.with("", 0, 0, 5);
            for (int drawer : new int[] {Edges.LEAST, -2, 1, 6, Edges.MOST}) {
                Edges.due("drawer " + drawer, x.see(drawer, 0, 0), Edges.NONE);
            }
            Edges.due("how many", x.count(2), 0);
        });
        Edges.edge("15 see: BAD: n", () -> {
            LostSheets x = Edges.with("", 0, 0, 5);
            for (int n : Edges.outside(0, 12)) {
                Edges.due("n " + n, x.see(0, n, 0), Edges.BAD);
            }
            Edges.due("0", x.see(0, 0, 0), 1);
            Edges.due("12", x.see(0, 12, 0), 2);
        });
        Edges.edge("15 see: BAD: mark", () -> {
            LostSheets x = Edges.with("", 0, 0, 5);
            for (int mark : Edges.outside(0, 7)) {
                Edges.due("mark " + mark, x.see(0, 0, mark), Edges.BAD);
            }
            Edges.due("0", x.see(0, 0, 0), 1);
            Edges.due("7", x.see(0, 0, 7), 2);
        });
        Edges.edge("15 see: FULL: 5", () -> {
            LostSheets x = fiveSeen();
            Edges.due("the sixth", x.see(0, 0, 6), Edges.FULL);
            Edges.due("how many", x.count(2), 5);
            Edges.due("places", x.of(0, 11), 32 + 8192);
        });
        Edges.edge("15 see: NONE ahead of BAD and FULL", () -> {
            LostSheets x = fiveSeen();
            Edges.due("n and mark", x.see(1, 13, 8), Edges.NONE);
            Edges.due("full", x.see(1, 0, 0), Edges.NONE);
        });
        Edges.edge("15 see: BAD ahead of FULL", () -> {
            LostSheets x = fiveSeen();
            Edges.due("n", x.see(0, 13, 0), Edges.BAD);
            Edges.due("mark", x.see(0, 0, 8), Edges.BAD);
        });
        Edges.edge("15 see: drawer -1: none then, 0, whatever the rest is", () -> {
            LostSheets x = fiveSeen();
            Edges.due("see", x.see(-1, 13, 8), 0);
            Edges.due("how many", x.count(2), 0);
            Edges.due("places", x.of(0, 11), Edges.ALL);
            Edges.due("of none", x.see(-1, Edges.LEAST, Edges.MOST), 0);
            Edges.due("the first", x.see(0, 0, 0), 1);
            Edges.due("without drawers", new LostSheets().see(-1, 0, 0), 0);
        });
    }

    private static void canOddsMean() {
        Edges.edge("16 can: NONE: drawer", () -> {
            LostSheets x = Edges.with("", 0, 0, 5);
            for (int drawer : Edges.outside(0, 0)) {
                Edges.due("drawer " + drawer, x.can(drawer, 0), Edges.NONE);
                Edges.due("drawer " + drawer, x.can(drawer, 1), Edges.NONE);
            }
        });
        Edges.edge("16 can: NONE: what", () -> {
            LostSheets x = Edges.with("", 0, 0, 5);
            for (int what : Edges.outside(0, 1)) {
                Edges.due("what " + what, x.can(0, what), Edges.NONE);
            }
        });
        Edges.edge("17 odds: NO: drawer", () -> {
            LostSheets x = Edges.with("", 0, 0, 5);
            for (int drawer : Edges.outside(0, 0)) {
                Edges.due("drawer " + drawer, x.odds(drawer, 0, 0), Edges.NO);
            }
        });
        Edges.edge("17 odds: NO: n", () -> {
            LostSheets x = Edges.with("", 0, 0, 5);
            for (int n : Edges.outside(0, 20)) {
                Edges.due("n " + n, x.odds(0, n, 0), Edges.NO);
            }
        });
        Edges.edge("17 odds: NO: part", () -> {
            LostSheets x = Edges.with("", 0, 0, 5);
            for (int part : Edges.outside(0, 1)) {
                Edges.due("part " + part, x.odds(0, 0, part), Edges.NO);
            }
        });
        Edges.edge("18 mean: NO: n", () -> {
            LostSheets x = Edges.with("", 0, 0, 5);
            for (int n : Edges.outside(0, 60)) {
                Edges.due("n " + n, x.mean(n, 0), Edges.NO);
            }
        });
        Edges.edge("18 mean: NO: part", () -> {
            LostSheets x = Edges.with("", 0, 0, 5);
            for (int part : Edges.outside(0, 1)) {
                Edges.due("part " + part, x.mean(0, part), Edges.NO);
            }
        });
    }

    private static LostSheets tenPlanned() {
        LostSheets x = Edges.steady(0, 0, 5);
        for (int i = 1; i <= 10; i++) {
            Edges.due("plan", x.plan(0, 0), i);
        }
        return x;
    }

    private static void plan() {
        Edges.edge("19 plan: NONE: what (0 .. 3)", () -> {
            LostSheets x = Edges.with("", 0, 0, 5);
            for (int what : new int[] {Edges.LEAST, -2, 4, 5, Edges.MOST}) {
                Edges.due("what " + what, x.plan(what, 0), Edges.NONE);
            }
            Edges.due("how many", x.count(3), 0);
        });
        Edges.edge("19 plan: NONE: drawer (by 1, 2)", () -> {
            LostSheets x = Edges.with("", 0, 0, 5);
            for (int n : Edges.outside(0, 0)) {
                Edges.due("1 " + n, x.plan(1, n), Edges.NONE);
                Edges.due("2 " + n, x.plan(2, n), Edges.NONE);
            }
            Edges.due("1 0", x.plan(1, 0), 1);
            Edges.due("2 0", x.plan(2, 0), 2);
        });
        Edges.edge("19 plan: NONE: cell (by 3)", () -> {
            LostSheets x = Edges.with("", 0, 0, 5);
            for (int n : Edges.outside(0, 15)) {
                Edges.due("3 " + n, x.plan(3, n), Edges.NONE);
            }
            Edges.due("3 0", x.plan(3, 0), 1);
            Edges.due("3 15", x.plan(3, 15), 2);
        });
        Edges.edge("19 plan: by 0 n does not matter", () -> {
            LostSheets x = new LostSheets();
            int rows = 0;
            for (int n : new int[] {Edges.LEAST, -1, 0, 6, 16, Edges.MOST}) {
                rows++;
                Edges.due("0 " + n, x.plan(0, n), rows);
            }
        });
        Edges.edge("19 plan: FULL: 10", () -> {
            LostSheets x = tenPlanned();
            Edges.due("an hour", x.plan(0, 0), Edges.FULL);
            Edges.due("no rows", x.plan(1, 0), Edges.FULL);
            Edges.due("not done", x.plan(2, 0), Edges.FULL);
            Edges.due("mark", x.plan(3, 0), Edges.FULL);
            Edges.due("how many", x.count(3), 10);
        });
        Edges.edge("19 plan: NONE ahead of FULL", () -> {
            LostSheets x = tenPlanned();
            Edges.due("what", x.plan(4, 0), Edges.NONE);
            Edges.due("drawer by 1", x.plan(1, 1), Edges.NONE);
            Edges.due("drawer by 2", x.plan(2, -1), Edges.NONE);
            Edges.due("cell", x.plan(3, 16), Edges.NONE);
        });
        Edges.edge("19 plan: what -1: it is empty then, 0, whatever the rest is", () -> {
            LostSheets x = tenPlanned();
            Edges.due("plan", x.plan(-1, Edges.MOST), 0);
            Edges.due("how many", x.count(3), 0);
            Edges.due("ends", x.ends(1), 0);
            Edges.due("again", x.plan(-1, Edges.LEAST), 0);
            Edges.due("the first", x.plan(0, 0), 1);
        });
        Edges.edge("20 ends: NONE", () -> {
            LostSheets x = tenPlanned();
            for (int what : Edges.outside(0, 1)) {
                Edges.due("what " + what, x.ends(what), Edges.NONE);
            }
        });
        Edges.edge("20 ends: without drawers", () -> {
            LostSheets x = new LostSheets();
            x.plan(0, 0);
            Edges.due("drawn", x.ends(0), 0);
            Edges.due("drew", x.ends(1), 0);
        });
    }

    private static LostSheets eightBooked() {
        LostSheets x = new LostSheets();
        for (int i = 1; i <= 8; i++) {
            Edges.due("book", x.book(15, 7), i);
        }
        return x;
    }

    private static void book() {
        Edges.edge("21 book: NONE: cell", () -> {
            LostSheets x = new LostSheets();
            for (int cell : new int[] {Edges.LEAST, -2, 16, 17, Edges.MOST}) {
                Edges.due("cell " + cell, x.book(cell, 0), Edges.NONE);
            }
            Edges.due("how many", x.count(4), 0);
            Edges.due("0", x.book(0, 0), 1);
            Edges.due("15", x.book(15, 0), 2);
        });
        Edges.edge("21 book: BAD: mark", () -> {
            LostSheets x = new LostSheets();
            for (int mark : Edges.outside(0, 7)) {
                Edges.due("mark " + mark, x.book(0, mark), Edges.BAD);
            }
            Edges.due("0", x.book(0, 0), 1);
            Edges.due("7", x.book(0, 7), 2);
        });
        Edges.edge("21 book: FULL: 8", () -> {
            LostSheets x = eightBooked();
            Edges.due("the ninth", x.book(0, 1), Edges.FULL);
            Edges.due("how many", x.count(4), 8);
            Edges.due("looked", x.looked(), Edges.NEVER);
        });
        Edges.edge("21 book: NONE ahead of BAD and FULL", () -> {
            Edges.due("mark", new LostSheets().book(16, 8), Edges.NONE);
            Edges.due("full", eightBooked().book(-2, 0), Edges.NONE);
        });
        Edges.edge("21 book: BAD ahead of FULL", () -> Edges.due("book", eightBooked().book(0, 8), Edges.BAD));
        Edges.edge("21 book: cell -1: it is empty then, 0, whatever the rest is", () -> {
            LostSheets x = eightBooked();
            x.mark(15, 0);
            Edges.due("looked", x.looked(), 0);
            Edges.due("book", x.book(-1, 8), 0);
            Edges.due("how many", x.count(4), 0);
            Edges.due("looked then", x.looked(), Edges.NEVER);
            Edges.due("again", x.book(-1, Edges.LEAST), 0);
            Edges.due("the first", x.book(15, 1), 1);
            Edges.due("looked at it", x.looked(), 0);
        });
    }

    private static void taken() {
        Edges.edge("28 taken: BAD: k (0 .. 6)", () -> {
            LostSheets x = Edges.with("", 6, 0, 5);
            for (int k : Edges.outside(0, 6)) {
                Edges.due("k " + k, x.taken(0, k), Edges.BAD);
            }
            Edges.due("0", x.taken(0, 0), 6);
            Edges.due("6", x.taken(0, 6), 6);
        });
        Edges.edge("28 taken: NOTHING: no such DRAWER", () -> {
            LostSheets x = Edges.with("", 6, 0, 5);
            for (int drawer : Edges.outside(0, 0)) {
                Edges.due("drawer " + drawer, x.taken(drawer, 0), Edges.NOTHING);
                Edges.due("drawer " + drawer, x.taken(drawer, 6), Edges.NOTHING);
            }
        });
        Edges.edge("28 taken: BAD ahead of NOTHING", () -> {
            Edges.due("above", new LostSheets().taken(0, 7), Edges.BAD);
            Edges.due("below", new LostSheets().taken(-1, -1), Edges.BAD);
        });
        int[][] own = {{0}, {0, 1}, {0, 2}, {0, 3}, {0, 1, 4}, {0, 2, 5}, {0, 3, 6}};
        for (int i = 0; i < 7; i++) {
            int kind = i;
            Edges.edge("28 taken: its KIND, or CAST: of KIND " + kind, () -> {
                LostSheets x = Edges.with("", kind, 0, 5);
                for (int k = 0; k < 7; k++) {
                    boolean under = false;
                    for (int above : own[kind]) {
                        under |= above == k;
                    }
                    Edges.due("k " + k, x.taken(0, k), under ? kind : Edges.CAST);
                }
            });
        }
    }

    private static void count() {
        Edges.edge("29 count: BAD", () -> {
            LostSheets x = sixDrawers();
            for (int what : Edges.outside(0, 6)) {
                Edges.due("what " + what, x.count(what), Edges.BAD);
            }
        });
        Edges.edge("29 count: what 0 .. 6 at their most", () -> {
            LostSheets x = sixDrawers();
            for (int i = 0; i < 6; i++) {
                Edges.office(x, "know 1");
            }
            for (int i = 0; i < 12; i++) {
                x.see(0, 0, 0);
                x.plan(0, 0);
                x.book(0, 0);
            }
            for (int i = 0; i < 102; i++) {
                x.feed('k');
            }
            x.act(5, 2, 0);
            int[] due = {6, 6, 5, 10, 8, 100, 12};
            for (int what = 0; what < 7; what++) {
                Edges.due("what " + what, x.count(what), due[what]);
            }
        });
    }

    public static void main(String[] args) {
        constants();
        newObject();
        drawer();
        of();
        sheet();
        putAndAnew();
        markAndRow();
        told();
        pass();
        onAndBest();
        see();
        canOddsMean();
        plan();
        book();
        taken();
        count();
        Edges.end("calls");
    }
}
