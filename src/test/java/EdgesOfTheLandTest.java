/** The edges of the document's section 1, offices' texts apart: cells, steps, drawers, feeling, hours. */
public final class EdgesOfTheLandTest {
    private static final int[][] STEPS = {
        {0, 1, 2, 3, 0, 1, 2, 3, 4, 5, 6, 7, 8, 9, 10, 11},
        {0, 0, 1, 2, 4, 4, 5, 6, 8, 8, 9, 10, 12, 12, 13, 14},
        {1, 2, 3, 3, 5, 6, 7, 7, 9, 10, 11, 11, 13, 14, 15, 15},
        {4, 5, 6, 7, 8, 9, 10, 11, 12, 13, 14, 15, 12, 13, 14, 15}};

    private static void cells() {
        Edges.edge("CELLS 0 .. 15", () -> {
            LostSheets x = new LostSheets();
            Edges.due("drawer at 0", x.drawer(0, 0, 0), 0);
            Edges.due("drawer at 15", x.drawer(0, 0, 15), 1);
            Edges.due("at 0", x.of(0, 2), 0);
            Edges.due("at 15", x.of(1, 2), 15);
            Edges.due("drawer at 16", x.drawer(0, 0, 16), Edges.NONE);
            Edges.due("drawer at -1", x.drawer(0, 0, -1), Edges.NONE);
        });
        Edges.edge("a MARK: its number modulo 8 at first", () -> {
            int[] marks = {0, 1, 2, 3, 4, 5, 6, 7, 0, 1, 2, 3, 4, 5, 6, 7};
            LostSheets x = new LostSheets();
            for (int c = 0; c < 16; c++) {
                Edges.due("mark of " + c, x.told(10 + c), marks[c]);
            }
        });
        Edges.edge("a MARK (0 .. 7)", () -> {
            LostSheets x = new LostSheets();
            Edges.due("mark 7", x.mark(3, 7), 3);
            Edges.due("mark 0", x.mark(3, 0), 7);
            Edges.due("mark 8", x.mark(3, 8), Edges.BAD);
            Edges.due("mark -1", x.mark(3, -1), Edges.BAD);
            Edges.due("is", x.told(13), 0);
        });
    }

    private static int cellBehindOneStep(int way, int cell) {
        LostSheets x = Edges.with("", 0, way, cell);
        x.pass(1);
        return x.of(0, 2);
    }

    private static void steps() {
        String[] names = {"0 up", "1 left", "2 right", "3 down"};
        for (int w = 0; w < 4; w++) {
            int way = w;
            Edges.edge("WAYS: " + names[way] + ", to the CELL next to it there", () -> {
                for (int c = 0; c < 16; c++) {
                    if (STEPS[way][c] != c) {
                        Edges.due("from " + c, cellBehindOneStep(way, c), STEPS[way][c]);
                    }
                }
            });
            Edges.edge("WAYS: " + names[way] + ", or stays, if there is none", () -> {
                for (int c = 0; c < 16; c++) {
                    if (STEPS[way][c] == c) {
                        Edges.due("from " + c, cellBehindOneStep(way, c), c);
                    }
                }
            });
        }
        Edges.edge("a STEP that stays is made and drawn", () -> {
            LostSheets x = Edges.with("", 0, 2, 7);
            x.pass(1);
            Edges.due("row", x.sheet(0, 0), 27);
            Edges.due("drawn", x.told(2), 128);
            Edges.due("drew", x.of(0, 5), 1);
        });
    }

    private static void drawn() {
        Edges.edge("DRAWN: none at first", () -> {
            Edges.due("without drawers", new LostSheets().told(2), 0);
            Edges.due("with one", Edges.with("", 0, 0, 5).told(2), 0);
        });
        Edges.edge("DRAWN: where something was drawn, not where one was", () -> {
            LostSheets x = Edges.with("", 0, 0, 5);
            x.pass(1);
            Edges.due("drawn", x.told(2), 2);
        });
        Edges.edge("DRAWN (bits): CELL 0 the lowest, CELL 15 the highest", () -> {
            LostSheets x = Edges.with("", 0, 0, 4, 0, 3, 11);
            x.pass(1);
            Edges.due("drawn", x.told(2), 1 + 32768);
        });
        Edges.edge("DRAWN again is DRAWN", () -> {
            LostSheets x = Edges.steady(0, 0, 0);
            x.pass(2);
            Edges.due("drawn", x.told(2), 1);
        });
    }

    private static void drawers() {
        Edges.edge("DRAWERS 0 .. 5, as they come", () -> {
            LostSheets x = new LostSheets();
            for (int i = 0; i < 6; i++) {
                Edges.due("drawer", x.drawer(6 - i, i, i), i);
            }
            Edges.due("the seventh", x.drawer(0, 0, 0), Edges.FULL);
            for (int i = 0; i < 6; i++) {
                Edges.due("kind of " + i, x.of(i, 0), 6 - i);
            }
        });
        Edges.edge("KINDS: 0 .. 6", () -> {
            LostSheets x = new LostSheets();
            Edges.due("kind 0", x.drawer(0, 0, 0), 0);
            Edges.due("kind 6", x.drawer(6, 0, 0), 1);
            Edges.due("kind 7", x.drawer(7, 0, 0), Edges.NONE);
        });
        Edges.edge("a number v (0 .. 9)", () -> {
            LostSheets x = new LostSheets();
            Edges.due("v 0", x.drawer(0, 0, 0), 0);
            Edges.due("v 9", x.drawer(0, 9, 0), 1);
            Edges.due("is 9", x.of(1, 1), 9);
            Edges.due("v 10", x.drawer(0, 10, 0), Edges.BAD);
            Edges.due("v -1", x.drawer(0, -1, 0), Edges.BAD);
        });
        Edges.edge("a SHEET: none at first", () -> {
            LostSheets x = Edges.with("", 0, 0, 0);
            Edges.due("rows", x.of(0, 3), 0);
            Edges.due("row 0", x.sheet(0, 0), Edges.NONE);
        });
        Edges.edge("DONE, or not (not at first)", () -> {
            LostSheets x = Edges.with("", 0, 0, 0);
            Edges.due("done", x.of(0, 4), 0);
            Edges.due("bits", x.told(3), 0);
        });
        Edges.edge("DREW: 0 at first", () -> Edges.due("drew", Edges.with("", 0, 0, 0).of(0, 5), 0));
        Edges.edge("HOUR: 0 at first", () -> Edges.due("hour", new LostSheets().told(0), 0));
    }

    private static void sheets() {
        Edges.edge("a SHEET: 8 rows at most, and one who has them steps no more", () -> {
            // By its hours 1 0 1 5 1 0 1 5; a ninth would be 1 again.
            LostSheets x = Edges.with("know 9", 0, 0, 5);
            x.pass(7);
            Edges.due("seven", x.of(0, 3), 7);
            x.pass(1);
            Edges.due("eight", x.of(0, 3), 8);
            Edges.due("row 7", x.sheet(0, 7), 35);
            x.pass(1);
            Edges.due("eight still", x.of(0, 3), 8);
            Edges.due("row 7 still", x.sheet(0, 7), 35);
            Edges.due("at", x.of(0, 2), 5);
            Edges.due("drew", x.of(0, 5), 8);
            Edges.due("hour", x.told(0), 9);
        });
        Edges.edge("8 rows do not make one DONE", () -> {
            LostSheets x = Edges.with("know 9", 0, 0, 0);
            x.pass(60);
            Edges.due("rows", x.of(0, 3), 8);
            Edges.due("done", x.of(0, 4), 0);
        });
    }

    /** The feeling of one with v 0 and this sum, at hour 0, at cell 0. */
    private static int feelOfKind(int kind, int sum) {
        String clause = sum < 0 ? "back " + -sum : "turn " + sum;
        return Edges.with(clause + " p=0", kind, 0, 0).of(0, 6);
    }

    private static void feels() {
        Edges.edge("DRAWER: SUM, also below 0", () -> {
            Edges.due("0", feelOfKind(0, 0), 0);
            Edges.due("-1", feelOfKind(0, -1), -1);
            Edges.due("-99", feelOfKind(0, -99), -99);
            Edges.due("99", feelOfKind(0, 99), 99);
        });
        Edges.edge("CLERK: SUM and v, also below 0", () -> {
            Edges.due("v 9", Edges.with("", 1, 9, 0).of(0, 6), 18);
            Edges.due("v 0", Edges.with("", 1, 0, 0).of(0, 6), 0);
            Edges.due("below", Edges.with("back 99 p=0", 1, 5, 0).of(0, 6), 5 - 99 + 5);
        });
        Edges.edge("CHILD: the half (cut toward 0) of SUM", () -> {
            int[] sums = {-99, -4, -3, -2, -1, 0, 1, 2, 3, 4, 99};
            int[] halves = {-49, -2, -1, -1, 0, 0, 0, 1, 1, 2, 49};
            for (int i = 0; i < sums.length; i++) {
                Edges.due("half of " + sums[i], feelOfKind(2, sums[i]), halves[i]);
            }
        });
        Edges.edge("GENERAL: twice that, and 1, if its SHEET has no rows, also below 0", () -> {
            Edges.due("0", feelOfKind(4, 0), 1);
            Edges.due("-1", feelOfKind(4, -1), -1);
            Edges.due("v 2", Edges.with("", 4, 2, 0).of(0, 6), 9);
            Edges.due("v 2 below", Edges.with("back 7 p=0", 4, 2, 0).of(0, 6), -5);
        });
        Edges.edge("GENERAL: as CLERK, if its SHEET has a row", () -> {
            LostSheets x = Edges.with("back 7 p=0", 4, 2, 0);
            x.pass(1);
            Edges.due("one row", x.of(0, 6), 2 + 1 - 7 + 2);
            x.anew(0);
            Edges.due("none again", x.of(0, 6), -3);
        });
        Edges.edge("SHEPHERD: the half is cut toward 0 ahead of the MARK", () -> {
            int[] sums = {-99, -5, -4, -3, -2, -1, 0, 1, 2, 3, 4, 5, 99};
            int[] halves = {-49, -2, -2, -1, -1, 0, 0, 0, 1, 1, 2, 2, 49};
            for (int i = 0; i < sums.length; i++) {
                Edges.due("half of " + sums[i] + " where the mark is 0", feelOfKind(5, sums[i]), halves[i]);
            }
        });
        Edges.edge("SHEPHERD: as CHILD, and the MARK of the CELL it is AT", () -> {
            LostSheets x = Edges.with("back 7 p=0", 5, 4, 7);
            Edges.due("at 7", x.of(0, 6), -1 + 7);
            x.put(0, 8);
            Edges.due("at 8, where the mark is 0", x.of(0, 6), -1);
            x.mark(8, 6);
            Edges.due("the mark that is there now", x.of(0, 6), 5);
        });
    }

    private static void feelsByOthers() {
        Edges.edge("LOVER: how many others are AT its CELL: none", () -> {
            LostSheets x = Edges.with("", 3, 4, 0, 3, 4, 1);
            Edges.due("alone", x.of(0, 6), 4);
        });
        Edges.edge("LOVER: how many others are AT its CELL: all five, of any KIND", () -> {
            LostSheets x = Edges.with("", 0, 0, 9, 1, 0, 9, 3, 4, 9, 2, 0, 9, 6, 0, 9, 5, 0, 9);
            Edges.due("with five", x.of(2, 6), 9);
            x.put(5, 8);
            Edges.due("with four", x.of(2, 6), 8);
        });
        Edges.edge("LOVER: below 0, with another", () -> {
            LostSheets x = Edges.with("back 5 k=3", 3, 0, 9, 0, 0, 9);
            Edges.due("feel", x.of(0, 6), -4);
        });
        Edges.edge("LOVER: others who are DONE are AT a CELL, too", () -> {
            LostSheets x = Edges.with("know 1", 0, 0, 0);
            x.pass(1);
            x.drawer(3, 0, 0);
            Edges.due("done", x.of(0, 4), 1);
            Edges.due("feel", x.of(1, 6), 0 + 1 + 1);
        });
        Edges.edge("TOLD: as LOVER", () -> {
            LostSheets x = Edges.with("", 6, 4, 3, 0, 0, 3, 0, 0, 3);
            Edges.due("with two", x.of(0, 6), 6);
        });
        Edges.edge("TOLD: its ROW is 0 at first", () -> {
            LostSheets x = Edges.with("", 6, 4, 3);
            Edges.due("feel", x.of(0, 6), 4);
            for (int part = 0; part < 4; part++) {
                Edges.due("part " + part, x.row(0, part, 0), 0);
            }
        });
        Edges.edge("TOLD: its ROW at HOUR modulo 4 more", () -> {
            LostSheets x = Edges.with("", 6, 0, 3);
            int[] row = {1, 3, 5, 7};
            for (int part = 0; part < 4; part++) {
                x.row(0, part, row[part]);
            }
            int[] feels = {0 + 1, 1 + 3, 2 + 5, 3 + 7, 4 + 1, 5 + 3, 6 + 5, 7 + 7, 8 + 1, 9 + 3, 0 + 5, 1 + 7, 2 + 1};
            for (int hour = 0; hour < feels.length; hour++) {
                Edges.due("hour " + hour, x.of(0, 6), feels[hour]);
                x.pass(1);
            }
        });
    }

    private static void ways() {
        Edges.edge("WAY: FEEL modulo 4, 0 .. 3", () -> {
            for (int v = 0; v < 10; v++) {
                Edges.due("feel " + v, Edges.with("", 0, v, 0).of(0, 7), v % 4);
            }
            Edges.due("feel 99", Edges.with("turn 99 p=0", 0, 0, 0).of(0, 7), 3);
        });
        Edges.edge("WAY: also if it is below 0: -3 gives 1", () -> {
            int[] ways = {0, 3, 2, 1, 0, 3, 2, 1, 0};
            for (int below = 1; below < ways.length; below++) {
                LostSheets x = Edges.with("back " + below + " p=0", 0, 0, 5);
                Edges.due("feel", x.of(0, 6), -below);
                Edges.due("way of -" + below, x.of(0, 7), ways[below]);
            }
            Edges.due("way of -99", Edges.with("back 99 p=0", 0, 0, 5).of(0, 7), 1);
        });
        Edges.edge("WAY: one goes by it when it is below 0", () -> {
            LostSheets x = Edges.with("back 3 p=0", 0, 0, 5);
            x.pass(1);
            Edges.due("left", x.of(0, 2), 4);
            Edges.due("row", x.sheet(0, 0), 14);
        });
    }

    private static void hours() {
        Edges.edge("An HOUR goes, by how all is ahead of it", () -> {
            // Two at 5 feel each other and go left; the third feels nobody and goes up, to where they were.
            LostSheets x = Edges.steady(3, 0, 5, 3, 0, 5, 3, 0, 9);
            x.pass(1);
            Edges.due("first", x.of(0, 2), 4);
            Edges.due("second", x.of(1, 2), 4);
            Edges.due("third", x.of(2, 2), 5);
        });
        Edges.edge("An HOUR goes: the MARK is that of the CELL it is AT then", () -> {
            LostSheets x = Edges.with("", 0, 3, 0);
            x.pass(1);
            Edges.due("row", x.sheet(0, 0), 34);
        });
        Edges.edge("An HOUR goes: each DRAWER that is not DONE", () -> {
            LostSheets x = Edges.with("know 1", 0, 3, 0);
            x.pass(1);
            Edges.due("done", x.of(0, 4), 1);
            x.pass(1);
            Edges.due("at", x.of(0, 2), 4);
            Edges.due("rows", x.of(0, 3), 1);
            Edges.due("drew", x.of(0, 5), 1);
            Edges.due("drawn", x.told(2), 16);
        });
        Edges.edge("DREW is 1 more for each row, and stays when the SHEET is new", () -> {
            LostSheets x = Edges.with("know 9", 0, 0, 0);
            for (int times = 1; times < 4; times++) {
                x.pass(9);
                Edges.due("drew", x.of(0, 5), 8 * times);
                x.anew(0);
            }
            Edges.due("drew", x.of(0, 5), 24);
        });
        Edges.edge("HOUR is 1 more, also if nobody goes", () -> {
            LostSheets x = new LostSheets();
            Edges.due("without drawers", x.pass(1), 1);
            Edges.due("hour", x.told(0), 1);
            LostSheets y = Edges.with("know 0", 0, 0, 0);
            y.pass(2);
            Edges.due("all done", y.told(3), 1);
            Edges.due("hour", y.told(0), 2);
        });
    }

    private static void known() {
        Edges.edge("KNOW rows have that MARK: with the third it is DONE, with the second not", () -> {
            LostSheets x = Edges.steady(0, 0, 0);
            x.pass(2);
            Edges.due("two", x.of(0, 4), 0);
            x.pass(1);
            Edges.due("three", x.of(0, 4), 1);
            Edges.due("bits", x.told(3), 1);
        });
        Edges.edge("KNOW rows or more", () -> {
            LostSheets x = Edges.steady(0, 0, 0);
            x.pass(2);
            Edges.due("office", Edges.office(x, "know 1"), 1);
            Edges.due("not by the office alone", x.of(0, 4), 0);
            x.pass(1);
            Edges.due("three by 1", x.of(0, 4), 1);
        });
        Edges.edge("KNOW rows: only those with that MARK count", () -> {
            // It draws 0 0, and then, by an office that knows by two, a 4.
            LostSheets x = Edges.steady(0, 0, 0);
            x.pass(2);
            Edges.due("office", Edges.office(x, "turn 1 h=2;know 2"), 1);
            x.pass(1);
            Edges.due("row", x.sheet(0, 2), 34);
            Edges.due("done", x.of(0, 4), 0);
        });
        Edges.edge("KNOW rows: they need not follow one another", () -> {
            // From 5 by its hours: 1 0 1 5 1.
            LostSheets x = Edges.with("", 0, 0, 5);
            x.pass(4);
            Edges.due("two 1", x.of(0, 4), 0);
            x.pass(1);
            Edges.due("three 1", x.of(0, 4), 1);
        });
        Edges.edge("KNOW rows of its SHEET: with the MARKS that were drawn", () -> {
            LostSheets x = Edges.steady(0, 0, 0);
            x.pass(2);
            x.mark(0, 5);
            x.pass(1);
            Edges.due("row 1", x.sheet(0, 1), 0);
            Edges.due("row 2", x.sheet(0, 2), 5);
            Edges.due("done", x.of(0, 4), 0);
        });
        Edges.edge("KNOW 0: DONE with the first row, not ahead of it", () -> {
            LostSheets x = Edges.with("know 0", 0, 0, 0);
            Edges.due("ahead", x.of(0, 4), 0);
            x.pass(1);
            Edges.due("then", x.of(0, 4), 1);
            Edges.due("rows", x.of(0, 3), 1);
        });
        Edges.edge("KNOW 1: DONE with the first row", () -> {
            LostSheets x = Edges.with("know 1", 0, 0, 0);
            x.pass(2);
            Edges.due("done", x.of(0, 4), 1);
            Edges.due("rows", x.of(0, 3), 1);
        });
        Edges.edge("KNOW 8: DONE with the eighth row of a MARK", () -> {
            LostSheets x = Edges.with("know 8", 0, 0, 0);
            for (int c = 0; c < 16; c++) {
                x.mark(c, 7);
            }
            x.pass(7);
            Edges.due("seven", x.of(0, 4), 0);
            x.pass(1);
            Edges.due("eight", x.of(0, 4), 1);
        });
    }

    public static void main(String[] args) {
        cells();
        steps();
        drawn();
        drawers();
        sheets();
        feels();
        feelsByOthers();
        ways();
        hours();
        known();
        Edges.end("the land, drawers and hours");
    }
}
