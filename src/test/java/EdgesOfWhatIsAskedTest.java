/** The edges of the document's section 2: what is asked of hours to come, of sheets, of what was seen, odds, plans. */
public final class EdgesOfWhatIsAskedTest {
    /** Takes one who begins at 4 through 0 1 2 3 7 6 5 4, and one at 12 through 8 9 10 11 15 14 13 12. */
    private static final String SNAKE = "turn 1 h=1;turn 3 h=3|h=4|h=6;turn 2 h=7";

    private static LostSheets snakes() {
        return Edges.with(SNAKE, 0, 0, 4, 0, 0, 12);
    }

    private static void on() {
        Edges.edge("ON n HOURS (0 .. 60): 0 is as it is", () -> {
            LostSheets x = Edges.with("know 1", 0, 0, 4, 0, 1, 15);
            x.pass(1);
            x.anew(1);
            Edges.due("drawn", x.on(0, 0), 1 + 16384);
            Edges.due("done", x.on(0, 1), 1);
            Edges.due("at", x.on(0, 10), 0);
            Edges.due("at", x.on(0, 11), 14);
        });
        Edges.edge("ON n HOURS (0 .. 60): 60", () -> {
            LostSheets x = snakes();
            Edges.due("drawn", x.on(60, 0), Edges.ALL);
            Edges.due("done", x.on(60, 1), 0);
            Edges.due("at", x.on(60, 10), 4);
        });
        Edges.edge("ON n HOURS: neither one less nor one more", () -> {
            int[] way = {4, 0, 1, 2, 3, 7, 6, 5, 4, 4};
            LostSheets x = snakes();
            for (int n = 0; n < way.length; n++) {
                Edges.due("at " + n, x.on(n, 10), way[n]);
            }
            Edges.due("drawn behind 7", x.on(7, 0), Edges.ALL - 16 - 4096);
            Edges.due("drawn behind 8", x.on(8, 0), Edges.ALL);
        });
        Edges.edge("ON: who is DONE, behind the hour that makes it so", () -> {
            LostSheets x = Edges.steady(0, 2, 7, 0, 0, 5);
            Edges.due("behind 2", x.on(2, 1), 0);
            Edges.due("behind 3", x.on(3, 1), 1 + 2);
        });
    }

    private static void whole() {
        Edges.edge("WHOLE: the fewest HOURS behind which all CELLS are DRAWN: 8, 7 .. 0", () -> {
            LostSheets x = snakes();
            for (int left = 8; left > 0; left--) {
                Edges.due("whole", x.told(4), left);
                x.pass(1);
            }
            Edges.due("whole", x.told(4), 0);
            x.pass(60);
            Edges.due("whole still", x.told(4), 0);
        });
        Edges.edge("WHOLE (-5: not by then): but for one CELL", () -> {
            LostSheets x = Edges.with(SNAKE, 0, 0, 4, 0, 0, 13);
            Edges.due("drawn by all hours", x.on(60, 0), Edges.ALL - 256);
            Edges.due("whole", x.told(4), Edges.NEVER);
            x.drawer(0, 1, 9);
            Edges.due("one more goes left to the 8", x.told(4), 8);
        });
        Edges.edge("WHOLE (-5: not by then): without drawers", () ->
            Edges.due("whole", new LostSheets().told(4), Edges.NEVER));
    }

    private static void cameAndHere() {
        Edges.edge("CAME and HERE of one without rows: all CELLS", () -> {
            LostSheets x = Edges.with("", 0, 0, 5);
            Edges.due("came", x.of(0, 8), Edges.ALL);
            Edges.due("here", x.of(0, 9), Edges.ALL);
            x.pass(1);
            x.anew(0);
            Edges.due("came anew", x.of(0, 8), Edges.ALL);
        });
        Edges.edge("CAME: also by STEPS that stay", () -> {
            // Up to a mark 1 come 1 (it stays), 5 and 13.
            LostSheets x = Edges.with("", 0, 0, 1);
            x.pass(1);
            Edges.due("came", x.of(0, 8), 2 + 32 + 8192);
            Edges.due("here", x.of(0, 9), 2 + 512);
        });
        Edges.edge("HERE: two who would come to one CELL are one bit", () -> {
            LostSheets x = Edges.with("", 0, 0, 1);
            x.pass(1);
            x.mark(9, 0);
            Edges.due("came", x.of(0, 8), 2 + 32);
            Edges.due("here", x.of(0, 9), 2);
        });
        Edges.edge("CAME: by all 8 rows, the last one, too", () -> {
            // 0 stays with its first row and then goes as 4 does; 12 goes likewise below.
            LostSheets x = snakes();
            x.pass(8);
            Edges.due("came", x.of(0, 8), 1 + 16 + 4096);
            Edges.due("here", x.of(0, 9), 16 + 4096);
            x.mark(12, 0);
            Edges.due("came but for 12", x.of(0, 8), 1 + 16);
            Edges.due("here but for 12", x.of(0, 9), 16);
        });
        Edges.edge("CAME: as MARKS are now, none", () -> {
            LostSheets x = Edges.with("", 0, 0, 5);
            x.pass(1);
            x.mark(1, 0);
            x.mark(9, 0);
            Edges.due("came", x.of(0, 8), 0);
            Edges.due("here", x.of(0, 9), 0);
            x.mark(9, 1);
            Edges.due("came again", x.of(0, 8), 8192);
            Edges.due("here again", x.of(0, 9), 512);
        });
        Edges.edge("CAME and HERE: CELLS 0 and 15", () -> {
            LostSheets x = Edges.with("", 0, 0, 0, 0, 3, 15);
            x.pass(1);
            Edges.due("up to a 0: came", x.of(0, 8), 1 + 16 + 4096);
            Edges.due("up to a 0: here", x.of(0, 9), 1 + 256);
            Edges.due("down to a 7: came", x.of(1, 8), 8 + 2048 + 32768);
            Edges.due("down to a 7: here", x.of(1, 9), 128 + 32768);
        });
        Edges.edge("CAME: by its SHEET alone, wherever it is AT", () -> {
            LostSheets x = Edges.with("", 0, 0, 5);
            x.pass(1);
            x.put(0, 15);
            Edges.due("came", x.of(0, 8), 2 + 32 + 8192);
        });
    }

    private static void look() {
        Edges.edge("LOOK: of several the first, and each of HERE by itself, also where two come to one CELL", () -> {
            LostSheets x = Edges.with("", 0, 0, 1);
            x.pass(1);
            // Of 1 and 9: up two marks, all else one mark twice.
            Edges.due("up alone", x.of(0, 10), 0);
            // Of 1, 5 and 9: up three marks 1, two of them on one cell; all else one mark twice.
            x.mark(5, 1);
            Edges.due("here", x.of(0, 9), 2 + 32 + 512);
            Edges.due("left, right and down", x.of(0, 10), 1);
            x.mark(4, 0);
            Edges.due("right and down", x.of(0, 10), 2);
            x.mark(6, 2);
            Edges.due("down alone", x.of(0, 10), 3);
            x.mark(13, 1);
            Edges.due("all alike", x.of(0, 10), 0);
        });
        Edges.edge("LOOK: of all CELLS, those who stay, too", () -> {
            // Up: 0 .. 3 three times; left: 0 and 4 four times; right: 3 and 7 four times; down: 4 .. 7 three times.
            Edges.due("look", Edges.with("", 0, 0, 5).of(0, 10), 0);
        });
        int[] marks = {0, 1, 2, 3, 4, 5, 6, 7, 0, 1, 2, 2, 7, 5, 6, 7};
        Edges.edge("LOOK: CELL 0 of HERE counts", () -> {
            // At most 4, 4, 4 and 5 of one mark; without CELL 0 left would be 3.
            LostSheets x = Edges.with("", 0, 0, 5);
            for (int c = 0; c < 16; c++) {
                x.mark(c, marks[c]);
            }
            Edges.due("look", x.of(0, 10), 0);
        });
        Edges.edge("LOOK: CELL 15 of HERE counts", () -> {
            // The same land turned round: 5, 4, 4 and 4; without CELL 15 right would be 3.
            LostSheets x = Edges.with("", 0, 0, 5);
            for (int c = 0; c < 16; c++) {
                x.mark(c, marks[15 - c]);
            }
            Edges.due("look", x.of(0, 10), 1);
        });
        Edges.edge("LOOK: of one CELL of HERE the first", () -> {
            LostSheets x = Edges.with("", 0, 0, 1);
            x.pass(1);
            x.mark(9, 0);
            Edges.due("here", x.of(0, 9), 2);
            Edges.due("look", x.of(0, 10), 0);
        });
        Edges.edge("LOOK (-5: HERE is empty)", () -> {
            LostSheets x = Edges.with("", 0, 0, 1);
            x.pass(1);
            x.mark(1, 0);
            x.mark(9, 0);
            Edges.due("look", x.of(0, 10), Edges.NEVER);
        });
    }

    private static void landing() {
        Edges.edge("LANDING of n HOURS (1 .. 12)", () -> {
            LostSheets x = Edges.steady(0, 0, 5);
            Edges.due("1", x.best(1, 10), 0);
            Edges.due("2", x.best(2, 10), 8);
            Edges.due("3", x.best(3, 10), 12);
            Edges.due("12", x.best(12, 10), 12);
            Edges.due("0", x.best(0, 10), Edges.BAD);
            Edges.due("13", x.best(13, 10), Edges.BAD);
        });
        Edges.edge("LANDING: of several the first, also if it draws nothing", () -> {
            LostSheets x = Edges.with("know 1", 0, 0, 9);
            x.pass(1);
            Edges.due("done", x.of(0, 4), 1);
            Edges.due("landing", x.best(5, 10), 0);
        });
        Edges.edge("LANDING: CELL 15", () -> {
            // The others draw the three columns above 12, 13 and 14.
            LostSheets x = Edges.steady(0, 0, 12, 0, 0, 13, 0, 0, 14, 0, 0, 0);
            Edges.due("landing", x.best(3, 13), 15);
            Edges.due("at still", x.of(3, 2), 0);
        });
        Edges.edge("LANDING: most CELLS are DRAWN, with those that are DRAWN now", () -> {
            LostSheets x = Edges.steady(0, 0, 4);
            x.pass(1);
            Edges.due("0 is drawn: the next", x.best(1, 10), 1);
        });
    }

    private static void crew() {
        Edges.edge("CREW: nobody, if there are none", () -> Edges.due("crew", new LostSheets().best(12, 0), 0));
        Edges.edge("CREW: nobody, if nothing more is DRAWN", () -> {
            LostSheets x = Edges.with("know 1", 0, 0, 0, 0, 0, 4);
            x.pass(1);
            Edges.due("all are done", x.best(12, 0), 0);
            LostSheets y = Edges.steady(0, 0, 0);
            y.pass(1);
            Edges.due("it draws what is drawn", y.best(12, 0), 0);
        });
        Edges.edge("CREW: of several the least as bits", () ->
            Edges.due("crew", Edges.steady(0, 0, 8, 0, 0, 8, 0, 0, 8).best(2, 0), 1));
        Edges.edge("CREW: the fewest, ahead of the least as bits", () -> {
            // The first draws 4, the second 0, the third both.
            Edges.due("crew", Edges.steady(0, 1, 4, 0, 0, 0, 0, 0, 8).best(2, 0), 4);
        });
        Edges.edge("CREW: the last alone", () ->
            Edges.due("crew", Edges.steady(0, 0, 0, 0, 0, 0, 0, 0, 0, 0, 0, 0, 0, 0, 0, 0, 0, 8).best(2, 0), 32));
        Edges.edge("CREW: all six", () ->
            Edges.due("crew", Edges.steady(0, 0, 0, 0, 0, 1, 0, 0, 2, 0, 0, 3, 0, 1, 4, 0, 1, 8).best(1, 0), 63));
        Edges.edge("CREW: as many CELLS, or more", () -> {
            // The lover goes down through 4 8 12; the other one, while he is not done, waits at 4 and turns it back.
            LostSheets x = Edges.steady(3, 3, 0, 0, 1, 5);
            Edges.due("as it is", x.on(3, 0), 1 + 16);
            Edges.due("crew", x.best(3, 0), 1);
        });
        Edges.edge("CREW: others who are DONE now are not needed", () -> {
            LostSheets x = Edges.with("know 1", 0, 0, 5);
            x.pass(1);
            x.drawer(0, 1, 7);
            Edges.due("crew", x.best(1, 0), 2);
        });
        Edges.edge("CREW of n HOURS (1 .. 12)", () -> {
            LostSheets x = Edges.steady(0, 1, 4, 0, 0, 0, 0, 0, 8);
            Edges.due("1", x.best(1, 0), 3);
            Edges.due("12", x.best(12, 0), 4);
            Edges.due("0", x.best(0, 0), Edges.BAD);
            Edges.due("13", x.best(13, 0), Edges.BAD);
        });
    }

    private static void seen() {
        Edges.edge("SEEN: HOURS n (0 .. 12) from now: 0 is now", () -> {
            LostSheets x = Edges.steady(0, 0, 5);
            Edges.due("see", x.see(0, 0, 5), 1);
            Edges.due("places", x.of(0, 11), 32 + 8192);
        });
        Edges.edge("SEEN: HOURS n (0 .. 12) from now: 12", () -> {
            LostSheets x = Edges.steady(0, 2, 4);
            Edges.due("see", x.see(0, 12, 7), 1);
            Edges.due("places: the rows that end in a 7", x.of(0, 11), 0xF0F0);
        });
        Edges.edge("SEEN: neither one HOUR less nor one more", () -> {
            LostSheets x = Edges.steady(0, 2, 4);
            int[] places = {0x4040, 0x2020, 0x1010, 0};
            for (int n = 0; n < places.length; n++) {
                x.see(-1, 0, 0);
                x.see(0, n, 6);
                Edges.due("places behind " + n, x.of(0, 11), places[n]);
            }
        });
        Edges.edge("SEEN: from now, whenever it was told", () -> {
            LostSheets x = Edges.steady(0, 0, 13);
            x.see(0, 1, 5);
            Edges.due("up from 13 is 9, a 1", x.told(30 + 9), 32);
            x.pass(1);
            Edges.due("up from 9 is 5, a 5", x.told(30 + 5), 32);
            Edges.due("of 9 any", x.told(30 + 9), 255);
        });
        Edges.edge("SEEN: 5 rows at most, the fifth counts", () -> {
            LostSheets x = Edges.steady(0, 0, 5);
            for (int i = 1; i < 5; i++) {
                Edges.due("see", x.see(0, 0, 5), i);
            }
            Edges.due("places by four", x.of(0, 11), 32 + 8192);
            Edges.due("the fifth", x.see(0, 1, 1), 5);
            Edges.due("places by five", x.of(0, 11), 32 + 8192);
            Edges.due("the sixth", x.see(0, 0, 0), Edges.FULL);
            Edges.due("places still", x.of(0, 11), 32 + 8192);
            x.mark(9, 2);
            Edges.due("13 comes to a 2 by the fifth", x.of(0, 11), 32);
        });
    }

    private static void marksOfCells() {
        Edges.edge("MARKS of a CELL: all, if nothing is SEEN", () -> {
            LostSheets x = Edges.steady(0, 0, 5);
            for (int c = 0; c < 16; c++) {
                Edges.due("marks of " + c, x.told(30 + c), 255);
            }
        });
        Edges.edge("MARKS of a CELL: bits 0 and 7", () -> {
            LostSheets x = Edges.steady(0, 0, 5);
            x.see(0, 0, 0);
            Edges.due("a 0 was seen", x.told(35), 1);
            x.see(-1, 0, 0);
            x.see(0, 0, 7);
            Edges.due("a 7 was seen", x.told(35), 128);
        });
        Edges.edge("MARKS of a CELL: none, if SEEN can't all be so", () -> {
            LostSheets x = Edges.steady(0, 0, 5);
            x.see(0, 0, 5);
            x.see(0, 0, 6);
            for (int c = 0; c < 16; c++) {
                Edges.due("marks of " + c, x.told(30 + c), 0);
            }
        });
        Edges.edge("MARKS of a CELL: those of another CELL are as they are", () -> {
            LostSheets x = Edges.steady(0, 0, 5);
            x.see(0, 0, 6);
            Edges.due("of 4", x.told(34), 0);
            Edges.due("of 5", x.told(35), 64);
            x.mark(5, 6);
            Edges.due("of 4 now", x.told(34), 255);
        });
        Edges.edge("MARKS of a CELL: CELLS 0 and 15", () -> {
            LostSheets x = Edges.steady(0, 0, 0, 0, 3, 15);
            x.see(0, 12, 3);
            Edges.due("of 0", x.told(30), 8);
            x.see(-1, 0, 0);
            x.see(1, 12, 3);
            Edges.due("of 15", x.told(45), 8);
        });
        Edges.edge("MARKS of a CELL: one may go otherwise by it", () -> {
            // By m>3 it goes right to 1 instead of staying at 0.
            LostSheets x = Edges.with("turn 2 m>3", 0, 0, 0);
            x.see(0, 1, 1);
            Edges.due("of 0", x.told(30), 2 + 16 + 32 + 64 + 128);
        });
    }

    private static void places() {
        Edges.edge("PLACES of one: all, if nothing is SEEN", () ->
            Edges.due("places", Edges.steady(0, 0, 5).of(0, 11), Edges.ALL));
        Edges.edge("PLACES of one: none", () -> {
            LostSheets x = Edges.steady(0, 0, 5);
            x.see(0, 0, 5);
            x.see(0, 1, 5);
            Edges.due("places", x.of(0, 11), 0);
        });
        Edges.edge("PLACES of one: CELLS 0 and 15", () -> {
            LostSheets x = Edges.steady(0, 0, 5, 0, 3, 5);
            x.see(0, 0, 0);
            x.see(0, 1, 0);
            Edges.due("0 alone", x.of(0, 11), 1);
            x.see(-1, 0, 0);
            x.see(1, 0, 7);
            x.see(1, 1, 7);
            Edges.due("15 alone", x.of(1, 11), 32768);
        });
        Edges.edge("PLACES of one: all of SEEN is so, also of others", () -> {
            LostSheets x = Edges.steady(0, 0, 5, 0, 0, 6);
            x.see(1, 0, 7);
            Edges.due("none of the first", x.of(0, 11), 0);
            Edges.due("of the other", x.of(1, 11), 128 + 32768);
        });
    }

    private static void can() {
        Edges.edge("CAN of one: all ten, the least is 0", () -> {
            LostSheets x = Edges.steady(0, 5, 5);
            Edges.due("how many", x.can(0, 0), 10);
            Edges.due("least", x.can(0, 1), 0);
        });
        Edges.edge("CAN of one: 9 alone", () -> {
            // Left by 1, 5 and 9; an office turns 1 and 5 on.
            LostSheets x = Edges.with("turn 1 v=1|v=5", 0, 0, 5);
            x.see(0, 1, 4);
            Edges.due("how many", x.can(0, 0), 1);
            Edges.due("least", x.can(0, 1), 9);
            Edges.due("v", x.of(0, 1), 0);
        });
        Edges.edge("CAN of one: 0 alone", () -> {
            LostSheets x = Edges.with("turn 1 v=4|v=8", 0, 7, 5);
            x.mark(9, 0);
            x.see(0, 1, 1);
            Edges.due("how many", x.can(0, 0), 1);
            Edges.due("least", x.can(0, 1), 0);
        });
        Edges.edge("CAN of one (-5: none)", () -> {
            LostSheets x = Edges.steady(0, 0, 5);
            x.see(0, 0, 0);
            Edges.due("how many", x.can(0, 0), 0);
            Edges.due("least", x.can(0, 1), Edges.NEVER);
        });
    }

    private static void fraction(String call, LostSheets x, int n, long above, long below) {
        Edges.due(call + " above", x.odds(0, n, 0), above);
        Edges.due(call + " below", x.odds(0, n, 1), below);
    }

    private static void odds() {
        Edges.edge("ODDS: a fraction in lowest terms: 0 of 16, 8 of 16, 16 of 16", () -> {
            // Up: from the two rows above it draws one mark three times; from all by four hours.
            LostSheets x = Edges.steady(0, 0, 12);
            fraction("0", x, 0, 0, 1);
            fraction("2", x, 2, 0, 1);
            fraction("3", x, 3, 1, 2);
            fraction("4", x, 4, 1, 1);
        });
        Edges.edge("ODDS: 1 of 16", () -> {
            LostSheets x = Edges.steady(0, 0, 9);
            x.mark(13, 0);
            x.pass(1);
            Edges.due("office", Edges.office(x, "turn 3 h=1;know 2"), 1);
            fraction("1", x, 1, 1, 16);
        });
        Edges.edge("ODDS: of the last of six, not of another", () -> {
            // Five are done; the sixth is so by three hours from the two rows above.
            LostSheets x = Edges.with("know 1", 0, 0, 0, 0, 0, 1, 0, 0, 2, 0, 0, 3, 0, 0, 4);
            x.pass(1);
            x.drawer(0, 3, 9);
            Edges.due("office", Edges.office(x, Edges.STEADY), 1);
            Edges.due("above", x.odds(5, 3, 0), 1);
            Edges.due("below", x.odds(5, 3, 1), 2);
            Edges.due("now above", x.odds(5, 0, 0), 0);
            Edges.due("of the first", x.odds(0, 0, 0), 1);
        });
        Edges.edge("ODDS: n HOURS (0 .. 20): 0, of one who is DONE", () -> {
            LostSheets x = Edges.with("know 1", 0, 0, 5);
            x.pass(1);
            fraction("0", x, 0, 1, 1);
        });
        Edges.edge("ODDS: n HOURS (0 .. 20): 20 and no more", () -> {
            LostSheets x = Edges.steady(0, 0, 12);
            fraction("20", x, 20, 1, 1);
            fraction("21", x, 21, Edges.NO, Edges.NO);
            fraction("-1", x, -1, Edges.NO, Edges.NO);
        });
    }

    private static void mean() {
        Edges.edge("MEAN (NO: there are none)", () -> {
            Edges.due("above", new LostSheets().mean(0, 0), Edges.NO);
            Edges.due("below", new LostSheets().mean(60, 1), Edges.NO);
        });
        Edges.edge("MEAN of nothing DREW: 0 and 1", () -> {
            LostSheets x = Edges.with("", 0, 0, 0, 0, 0, 0, 0, 0, 0);
            Edges.due("above", x.mean(0, 0), 0);
            Edges.due("below", x.mean(0, 1), 1);
        });
        Edges.edge("MEAN: a fraction in lowest terms, of six", () -> {
            LostSheets x = Edges.with("know 9", 0, 0, 0);
            x.pass(1);
            for (int i = 1; i < 6; i++) {
                x.drawer(0, 0, 0);
            }
            Edges.due("1 of 6 above", x.mean(0, 0), 1);
            Edges.due("1 of 6 below", x.mean(0, 1), 6);
            Edges.due("7 of 6 above", x.mean(1, 0), 7);
            Edges.due("7 of 6 below", x.mean(1, 1), 6);
        });
        Edges.edge("MEAN: a fraction in lowest terms, 2 of 6, 8 of 6", () -> {
            LostSheets x = Edges.with("know 9", 0, 0, 0);
            x.pass(2);
            for (int i = 1; i < 6; i++) {
                x.drawer(0, 0, 0);
            }
            Edges.due("2 of 6 above", x.mean(0, 0), 1);
            Edges.due("2 of 6 below", x.mean(0, 1), 3);
            Edges.due("8 of 6 above", x.mean(1, 0), 4);
            Edges.due("8 of 6 below", x.mean(1, 1), 3);
        });
        Edges.edge("MEAN of n HOURS (0 .. 60)", () -> {
            LostSheets x = Edges.with("know 9", 0, 0, 0);
            Edges.due("60", x.mean(60, 0), 8);
            Edges.due("60", x.mean(60, 1), 1);
            Edges.due("61", x.mean(61, 0), Edges.NO);
            Edges.due("-1", x.mean(-1, 1), Edges.NO);
        });
    }

    private static void plans() {
        Edges.edge("A PLAN without rows: as it is now", () -> {
            LostSheets x = Edges.with("", 0, 0, 4);
            x.pass(1);
            Edges.due("drawn", x.ends(0), 1);
            Edges.due("drew", x.ends(1), 1);
        });
        Edges.edge("A PLAN: 10 rows at most, the tenth goes", () -> {
            LostSheets x = Edges.with("know 9", 0, 0, 0);
            for (int i = 1; i <= 8; i++) {
                Edges.due("plan", x.plan(0, 0), i);
                Edges.due("drew", x.ends(1), i);
            }
            Edges.due("no rows", x.plan(1, 0), 9);
            Edges.due("drew by nine", x.ends(1), 8);
            Edges.due("the tenth", x.plan(0, 0), 10);
            Edges.due("drew by ten", x.ends(1), 9);
            Edges.due("the eleventh", x.plan(0, 0), Edges.FULL);
            Edges.due("drew still", x.ends(1), 9);
        });
        Edges.edge("A PLAN: 1 the SHEET has no rows, but one who is DONE is so still", () -> {
            LostSheets x = Edges.with("know 1", 0, 0, 0);
            x.pass(1);
            x.plan(1, 0);
            x.plan(0, 0);
            Edges.due("drew", x.ends(1), 1);
        });
        Edges.edge("A PLAN: 2 is not DONE, and is DONE again", () -> {
            LostSheets x = Edges.with("know 1", 0, 0, 0);
            x.pass(1);
            x.plan(2, 0);
            x.plan(0, 0);
            Edges.due("drew", x.ends(1), 2);
            x.plan(0, 0);
            Edges.due("drew then", x.ends(1), 2);
        });
        Edges.edge("A PLAN: 2 is not DONE, but has its 8 rows still", () -> {
            LostSheets x = Edges.with("know 8;back 1 h=1|h=5;back 2 h=2|h=6;back 3 h=3|h=7", 0, 0, 0);
            x.pass(8);
            Edges.due("done", x.of(0, 4), 1);
            x.plan(2, 0);
            x.plan(0, 0);
            Edges.due("drew", x.ends(1), 8);
        });
        Edges.edge("A PLAN: 1 the SHEET has no rows, and room for 8 again", () -> {
            LostSheets x = Edges.with("know 9", 0, 0, 0);
            x.pass(8);
            x.plan(1, 0);
            for (int i = 1; i < 10; i++) {
                x.plan(0, 0);
                Edges.due("drew", x.ends(1), 8 + Math.min(i, 8));
            }
            Edges.due("rows now", x.of(0, 3), 8);
        });
        Edges.edge("A PLAN: 1 and 2 of the last of six alone", () -> {
            LostSheets x = Edges.with("know 1", 0, 0, 0, 0, 0, 1, 0, 0, 2, 0, 0, 3, 0, 0, 4, 0, 0, 5);
            x.pass(1);
            x.plan(2, 5);
            x.plan(0, 0);
            Edges.due("one more", x.ends(1), 7);
            Edges.due("done now", x.told(3), 63);
            LostSheets y = Edges.with("know 9", 0, 0, 0, 0, 0, 1, 0, 0, 2, 0, 0, 3, 0, 0, 4, 0, 0, 5);
            y.pass(8);
            y.plan(1, 5);
            y.plan(0, 0);
            Edges.due("one more than 48", y.ends(1), 49);
        });
        Edges.edge("A PLAN: 3 MARK of CELL n is 0, no other number", () -> {
            // A shepherd goes by the mark: by 0 up, by 1 or 5 left.
            LostSheets x = Edges.with("", 5, 0, 5);
            x.plan(3, 5);
            x.plan(0, 0);
            Edges.due("drawn", x.ends(0), 2);
        });
        Edges.edge("A PLAN: 3 MARK of CELL 0, of CELL 15", () -> {
            LostSheets x = Edges.with("", 5, 1, 15);
            x.plan(3, 15);
            x.plan(0, 0);
            Edges.due("by 15 no more 7 it goes up", x.ends(0), 2048);
            LostSheets y = Edges.with("", 5, 1, 0);
            y.mark(0, 3);
            y.plan(0, 0);
            Edges.due("by a 3 at 0 it goes down", y.ends(0), 16);
            y.plan(-1, 0);
            y.plan(3, 0);
            y.plan(0, 0);
            Edges.due("by a 0 it stays", y.ends(0), 1);
        });
        Edges.edge("A PLAN: 3 MARK of CELL n is 0, from then on", () -> {
            // At 12 it stays and draws: a 4, then two 0, and is done; with no 0 by two 4.
            LostSheets x = Edges.with("back 1 h=1|h=5;back 2 h=2|h=6;back 3 h=3|h=7;know 2", 0, 3, 12);
            x.plan(0, 0);
            x.plan(3, 12);
            for (int i = 0; i < 3; i++) {
                x.plan(0, 0);
            }
            Edges.due("drew", x.ends(1), 3);
            Edges.due("the mark now", x.told(22), 4);
            x.plan(-1, 0);
            for (int i = 0; i < 4; i++) {
                x.plan(0, 0);
            }
            Edges.due("drew without", x.ends(1), 2);
        });
        Edges.edge("ENDS: DREW of all, together", () -> {
            LostSheets x = Edges.with("", 0, 0, 0, 0, 0, 1, 0, 0, 2, 0, 0, 3, 0, 0, 4, 0, 0, 5);
            x.plan(0, 0);
            Edges.due("drew", x.ends(1), 6);
            Edges.due("drawn", x.ends(0), 15);
        });
    }

    private static void books() {
        Edges.edge("LOOKED at (-5: none): an empty BOOK", () -> Edges.due("looked", new LostSheets().looked(), Edges.NEVER));
        Edges.edge("LOOKED at (-5: none): all is so", () -> {
            LostSheets x = new LostSheets();
            x.book(0, 0);
            x.book(15, 7);
            Edges.due("looked", x.looked(), Edges.NEVER);
        });
        Edges.edge("LOOKED at: the number (from 0) of the first", () -> {
            LostSheets x = new LostSheets();
            x.book(0, 1);
            x.book(1, 7);
            Edges.due("looked", x.looked(), 0);
            x.mark(0, 1);
            Edges.due("looked then", x.looked(), 1);
        });
        Edges.edge("A BOOK: 8 rows at most, the eighth is looked at", () -> {
            LostSheets x = new LostSheets();
            for (int c = 0; c < 7; c++) {
                Edges.due("book", x.book(c, c), c + 1);
            }
            Edges.due("the eighth", x.book(7, 0), 8);
            Edges.due("the ninth", x.book(8, 5), Edges.FULL);
            Edges.due("looked", x.looked(), 7);
            x.mark(7, 0);
            Edges.due("looked then", x.looked(), Edges.NEVER);
        });
        Edges.edge("A BOOK: a CELL twice", () -> {
            LostSheets x = new LostSheets();
            x.book(5, 5);
            x.book(5, 4);
            Edges.due("looked", x.looked(), 1);
            x.mark(5, 4);
            Edges.due("looked then", x.looked(), 0);
        });
    }

    private static void beyondTheLastHour() {
        String beyond = "goes on from how all is (HOURS beyond 9999, too): ";
        Edges.edge(beyond + "ON, LANDING, CREW", () -> {
            // By 9999 left, by 10000 up.
            LostSheets x = new LostSheets();
            Edges.toTheLastHour(x);
            x.drawer(0, 0, 5);
            Edges.due("at", x.on(1, 10), 4);
            Edges.due("at then", x.on(2, 10), 0);
            Edges.due("drawn", x.on(2, 0), 17);
            Edges.due("landing", x.best(2, 10), 4);
            Edges.due("crew", x.best(2, 0), 1);
            Edges.due("hour", x.told(0), 9999);
        });
        Edges.edge(beyond + "ODDS, MEAN, ENDS, SEEN", () -> {
            LostSheets x = new LostSheets();
            Edges.toTheLastHour(x);
            x.drawer(0, 0, 5);
            // Left, up, left: from 0 and 1 three times 0, and from nowhere else three alike.
            Edges.due("odds", x.odds(0, 3, 0), 1);
            Edges.due("odds", x.odds(0, 3, 1), 8);
            // From 5: 4 0 0 1 5 1 0; going left for ever it would draw but three.
            Edges.due("mean", x.mean(60, 0), 7);
            x.plan(0, 0);
            x.plan(0, 0);
            Edges.due("ends", x.ends(0), 17);
            x.see(0, 2, 0);
            Edges.due("marks", x.told(30), 1);
            Edges.due("hour", x.told(0), 9999);
        });
        Edges.edge(beyond + "WHOLE", () -> {
            LostSheets x = new LostSheets();
            Edges.toTheLastHour(x);
            x.drawer(0, 0, 5);
            x.drawer(0, 0, 13);
            Edges.due("office", Edges.office(x, SNAKE), 0);
            Edges.due("whole", x.told(4), 8);
        });
    }

    public static void main(String[] args) {
        on();
        whole();
        cameAndHere();
        look();
        landing();
        crew();
        seen();
        marksOfCells();
        places();
        can();
        odds();
        mean();
        plans();
        books();
        beyondTheLastHour();
        Edges.end("what is asked");
    }
}
