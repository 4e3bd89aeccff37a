/** The edges of TAPES and of judging by them. */
public final class EdgesOfTapesTest {
    private static final int BYTES = 0, SHORTS = 1, INTS = 2, LONGS = 3, BOOLEANS = 4;
    private static final int[] NO_TAPES = {Edges.LEAST, -1, 6, 7, Edges.MOST};

    private static void tape() {
        Edges.edge("30 tape: TAPES 0 .. 5", () -> {
            LostSheets x = new LostSheets();
            for (int t = 0; t < 6; t++) {
                Edges.due("tape", x.tape(t, INTS, t + 1), 1);
                Edges.due("item", x.item(t, t, 10 + t), 1);
            }
            for (int t = 0; t < 6; t++) {
                Edges.due("read " + t, x.read(t, t), 10 + t);
            }
            for (int t : NO_TAPES) {
                Edges.due("tape " + t, x.tape(t, INTS, 1), Edges.NONE);
                Edges.due("nothing " + t, x.tape(t, -1, 0), Edges.NONE);
            }
        });
        Edges.edge("30 tape: NONE ahead of BAD and SIZE", () -> {
            LostSheets x = new LostSheets();
            Edges.due("sort", x.tape(6, 5, 0), Edges.NONE);
            Edges.due("n above", x.tape(6, 0, 61), Edges.NONE);
            Edges.due("n below", x.tape(-1, 0, -1), Edges.NONE);
        });
        Edges.edge("30 tape: BAD: sort", () -> {
            LostSheets x = new LostSheets();
            for (int sort : new int[] {Edges.LEAST, -2, 5, 6, Edges.MOST}) {
                Edges.due("sort " + sort, x.tape(0, sort, 1), Edges.BAD);
                Edges.due("sort ahead of size " + sort, x.tape(0, sort, -1), Edges.BAD);
            }
            Edges.due("nothing there", x.item(0, 0, 0), Edges.NOTHING);
        });
        Edges.edge("30 tape: n (0 .. 60), BAD: above 60", () -> {
            LostSheets x = new LostSheets();
            Edges.due("60", x.tape(0, LONGS, 60), 1);
            Edges.due("item 59", x.item(0, 59, 5), 1);
            Edges.due("61", x.tape(0, LONGS, 61), Edges.BAD);
            Edges.due("most", x.tape(0, LONGS, Edges.MOST), Edges.BAD);
            Edges.due("item 59 still", x.read(0, 59), 5);
        });
        Edges.edge("30 tape: SIZE: a size below 0", () -> {
            LostSheets x = new LostSheets();
            for (int sort = 0; sort < 5; sort++) {
                Edges.due("-1", x.tape(0, sort, -1), Edges.SIZE);
                Edges.due("least", x.tape(0, sort, Edges.LEAST), Edges.SIZE);
            }
            Edges.due("nothing there", x.item(0, 0, 0), Edges.NOTHING);
        });
        Edges.edge("30 tape: a row of none", () -> {
            LostSheets x = new LostSheets();
            Edges.due("0", x.tape(0, BYTES, 0), 1);
            Edges.due("item", x.item(0, 0, 0), Edges.PLACE);
            Edges.due("read", x.read(0, 0), Edges.NO);
            Edges.due("shift", x.shift(0, 0, 0, 0, 0), 0);
        });
        Edges.edge("30 tape: holds nothing (sort -1: n does not matter)", () -> {
            LostSheets x = new LostSheets();
            for (int n : new int[] {Edges.LEAST, -1, 0, 60, 61, Edges.MOST}) {
                x.tape(0, INTS, 3);
                Edges.due("n " + n, x.tape(0, -1, n), 1);
                Edges.due("item", x.item(0, 0, 0), Edges.NOTHING);
                Edges.due("read", x.read(0, 0), Edges.NO);
            }
            Edges.due("once more", x.tape(0, -1, 0), 1);
        });
        Edges.edge("30 tape: all 0, also where a row was", () -> {
            LostSheets x = new LostSheets();
            x.tape(0, LONGS, 60);
            for (int i = 0; i < 60; i++) {
                x.item(0, i, -1);
            }
            x.tape(0, -1, 0);
            x.tape(0, SHORTS, 60);
            for (int i = 0; i < 60; i++) {
                Edges.due("item " + i, x.read(0, i), 0);
            }
        });
        Edges.edge("30 tape: a shorter row ends earlier, a longer one later", () -> {
            LostSheets x = new LostSheets();
            x.tape(0, INTS, 10);
            x.tape(0, INTS, 2);
            Edges.due("2", x.item(0, 2, 1), Edges.PLACE);
            x.tape(0, INTS, 3);
            Edges.due("2 then", x.item(0, 2, 1), 1);
            Edges.due("3", x.item(0, 3, 1), Edges.PLACE);
        });
        Edges.edge("30 tape: what is refused leaves the row", () -> {
            LostSheets x = new LostSheets();
            x.tape(0, BYTES, 2);
            x.item(0, 1, 9);
            x.tape(0, 5, 1);
            x.tape(0, 1, 61);
            x.tape(0, 1, -1);
            Edges.due("item", x.read(0, 1), 9);
            Edges.due("bytes still, and no mark 1 at cell 1", x.judge(0, 0), 1);
        });
    }

    /** A new row of a sort, an item of it told and read. */
    private static void kept(int sort, long told, long due) {
        LostSheets x = new LostSheets();
        x.tape(3, sort, 3);
        Edges.due("item " + told, x.item(3, 1, told), 1);
        Edges.due("read of " + told, x.read(3, 1), due);
        Edges.due("the one ahead", x.read(3, 0), 0);
        Edges.due("the one behind", x.read(3, 2), 0);
    }

    private static void item() {
        Edges.edge("31 item: its lowest bits: bytes", () -> {
            long[] told = {127, 128, 255, 256, -1, -128, -129, Long.MAX_VALUE, Long.MIN_VALUE};
            long[] due = {127, -128, -1, 0, -1, -128, 127, -1, 0};
            for (int i = 0; i < told.length; i++) {
                kept(BYTES, told[i], due[i]);
            }
        });
        Edges.edge("31 item: its lowest bits: shorts", () -> {
            long[] told = {32767, 32768, 65535, 65536, -1, -32768, -32769, Long.MAX_VALUE, Long.MIN_VALUE};
            long[] due = {32767, -32768, -1, 0, -1, -32768, 32767, -1, 0};
            for (int i = 0; i < told.length; i++) {
                kept(SHORTS, told[i], due[i]);
            }
        });
        Edges.edge("31 item: its lowest bits: ints", () -> {
            long[] told = {2147483647L, 2147483648L, 4294967295L, 4294967296L, -1, -2147483648L, -2147483649L,
                Long.MAX_VALUE, Long.MIN_VALUE};
            long[] due = {2147483647L, -2147483648L, -1, 0, -1, -2147483648L, 2147483647L, -1, 0};
            for (int i = 0; i < told.length; i++) {
                kept(INTS, told[i], due[i]);
            }
        });
        Edges.edge("31 item: its lowest bits: longs, all of them", () -> {
            for (long v : new long[] {0, -1, 1L << 62, Long.MAX_VALUE, Long.MIN_VALUE, Long.MIN_VALUE + 1}) {
                kept(LONGS, v, v);
            }
        });
        Edges.edge("31 item: booleans: whether v is not 0", () -> {
            kept(BOOLEANS, 0, 0);
            for (long v : new long[] {1, 2, -1, 256, 65536, 1L << 32, Long.MAX_VALUE, Long.MIN_VALUE}) {
                kept(BOOLEANS, v, 1);
            }
        });
        Edges.edge("31 item: NONE", () -> {
            LostSheets x = new LostSheets();
            for (int t : NO_TAPES) {
                Edges.due("tape " + t, x.item(t, 0, 0), Edges.NONE);
            }
        });
        Edges.edge("31 item: NOTHING, ahead of PLACE", () -> {
            LostSheets x = new LostSheets();
            Edges.due("0", x.item(5, 0, 0), Edges.NOTHING);
            Edges.due("-1", x.item(5, -1, 0), Edges.NOTHING);
            Edges.due("60", x.item(5, 60, 0), Edges.NOTHING);
        });
        for (int s = 0; s < 5; s++) {
            int sort = s;
            Edges.edge("31 item: PLACE, of sort " + sort, () -> {
                LostSheets x = new LostSheets();
                x.tape(0, sort, 3);
                Edges.due("0", x.item(0, 0, 1), 1);
                Edges.due("2", x.item(0, 2, 1), 1);
                for (int i : Edges.outside(0, 2)) {
                    Edges.due("place " + i, x.item(0, i, 1), Edges.PLACE);
                }
                Edges.due("59", x.item(0, 59, 1), Edges.PLACE);
                Edges.due("60", x.item(0, 60, 1), Edges.PLACE);
            });
        }
    }

    private static void read() {
        Edges.edge("32 read: NO: no such TAPE", () -> {
            LostSheets x = new LostSheets();
            for (int t : NO_TAPES) {
                Edges.due("tape " + t, x.read(t, 0), Edges.NO);
            }
        });
        Edges.edge("32 read: NO: nothing there", () -> Edges.due("read", new LostSheets().read(0, 0), Edges.NO));
        Edges.edge("32 read: NO: no such place", () -> {
            LostSheets x = new LostSheets();
            x.tape(0, INTS, 3);
            x.item(0, 2, 7);
            Edges.due("0", x.read(0, 0), 0);
            Edges.due("2", x.read(0, 2), 7);
            for (int i : Edges.outside(0, 2)) {
                Edges.due("place " + i, x.read(0, i), Edges.NO);
            }
        });
    }

    /** Tape 0 is 1 2 3 4 5 6, tape 1 is 11 12 13 14, both ints. */
    private static LostSheets two() {
        LostSheets x = new LostSheets();
        x.tape(0, INTS, 6);
        x.tape(1, INTS, 4);
        for (int i = 0; i < 6; i++) {
            x.item(0, i, 1 + i);
        }
        for (int i = 0; i < 4; i++) {
            x.item(1, i, 11 + i);
        }
        return x;
    }

    private static void row(LostSheets x, int tape, int... due) {
        for (int i = 0; i < due.length; i++) {
            Edges.due("item " + i + " of " + tape, x.read(tape, i), due[i]);
        }
        Edges.due("behind the last of " + tape, x.read(tape, due.length), Edges.NO);
    }

    private static void shifted() {
        Edges.edge("33 shift: all of a row, to the other's end", () -> {
            LostSheets x = two();
            Edges.due("shift", x.shift(0, 2, 1, 0, 4), 4);
            row(x, 1, 3, 4, 5, 6);
            row(x, 0, 1, 2, 3, 4, 5, 6);
        });
        Edges.edge("33 shift: the first and the last item", () -> {
            LostSheets x = two();
            Edges.due("first to last", x.shift(0, 0, 1, 3, 1), 1);
            Edges.due("last to first", x.shift(0, 5, 1, 0, 1), 1);
            row(x, 1, 6, 12, 13, 1);
        });
        Edges.edge("33 shift: none", () -> {
            LostSheets x = two();
            Edges.due("at 0", x.shift(0, 0, 1, 0, 0), 0);
            Edges.due("at both ends", x.shift(0, 6, 1, 4, 0), 0);
            row(x, 1, 11, 12, 13, 14);
        });
        Edges.edge("33 shift: the same TAPE, onto itself", () -> {
            LostSheets x = two();
            Edges.due("shift", x.shift(0, 0, 0, 0, 6), 6);
            row(x, 0, 1, 2, 3, 4, 5, 6);
        });
        Edges.edge("33 shift: the same TAPE, as they all were before, upward", () -> {
            LostSheets x = two();
            Edges.due("shift", x.shift(0, 0, 0, 1, 5), 5);
            row(x, 0, 1, 1, 2, 3, 4, 5);
        });
        Edges.edge("33 shift: the same TAPE, as they all were before, downward", () -> {
            LostSheets x = two();
            Edges.due("shift", x.shift(0, 1, 0, 0, 5), 5);
            row(x, 0, 2, 3, 4, 5, 6, 6);
        });
        for (int s = 0; s < 5; s++) {
            int sort = s;
            Edges.edge("33 shift: of sort " + sort, () -> {
                LostSheets x = new LostSheets();
                x.tape(2, sort, 60);
                x.tape(3, sort, 60);
                x.item(2, 59, 1);
                Edges.due("shift", x.shift(2, 59, 3, 0, 1), 1);
                Edges.due("read", x.read(3, 0), 1);
                Edges.due("all", x.shift(2, 0, 3, 0, 60), 60);
                Edges.due("first", x.read(3, 0), 0);
                Edges.due("last", x.read(3, 59), 1);
            });
        }
    }

    private static void shiftRefused() {
        Edges.edge("33 shift: NONE: tapes", () -> {
            LostSheets x = two();
            for (int t : NO_TAPES) {
                Edges.due("from " + t, x.shift(t, 0, 0, 0, 0), Edges.NONE);
                Edges.due("to " + t, x.shift(0, 0, t, 0, 0), Edges.NONE);
            }
        });
        Edges.edge("33 shift: NOTHING", () -> {
            LostSheets x = two();
            Edges.due("from", x.shift(5, 0, 0, 0, 0), Edges.NOTHING);
            Edges.due("to", x.shift(0, 0, 5, 0, 0), Edges.NOTHING);
            Edges.due("both", x.shift(4, 0, 5, 0, 0), Edges.NOTHING);
            Edges.due("the same", x.shift(5, 0, 5, 0, 0), Edges.NOTHING);
        });
        Edges.edge("33 shift: CAST: of unlike sorts, of none, too", () -> {
            LostSheets x = new LostSheets();
            for (int sort = 0; sort < 5; sort++) {
                x.tape(sort, sort, 3);
            }
            for (int from = 0; from < 5; from++) {
                for (int to = 0; to < 5; to++) {
                    Edges.due(from + " to " + to, x.shift(from, 0, to, 0, 0), from == to ? 0 : Edges.CAST);
                    Edges.due(from + " to " + to, x.shift(from, 0, to, 0, 1), from == to ? 1 : Edges.CAST);
                }
            }
        });
        Edges.edge("33 shift: PLACE: n is below 0, or beyond either's end", () -> {
            LostSheets x = two();
            Edges.due("-1", x.shift(0, 1, 1, 1, -1), Edges.PLACE);
            Edges.due("least", x.shift(0, 1, 1, 1, Edges.LEAST), Edges.PLACE);
            Edges.due("7 of six", x.shift(0, 0, 0, 0, 7), Edges.PLACE);
            Edges.due("5 to four", x.shift(0, 0, 1, 0, 5), Edges.PLACE);
            Edges.due("5 of four", x.shift(1, 0, 0, 0, 5), Edges.PLACE);
            Edges.due("most", x.shift(0, 1, 1, 1, Edges.MOST), Edges.PLACE);
            row(x, 0, 1, 2, 3, 4, 5, 6);
            row(x, 1, 11, 12, 13, 14);
        });
        Edges.edge("33 shift: PLACE: i is below 0, or beyond its end", () -> {
            LostSheets x = two();
            Edges.due("-1", x.shift(0, -1, 1, 0, 1), Edges.PLACE);
            Edges.due("-1 of none", x.shift(0, -1, 1, 0, 0), Edges.PLACE);
            Edges.due("least", x.shift(0, Edges.LEAST, 1, 0, 1), Edges.PLACE);
            Edges.due("6", x.shift(0, 6, 1, 0, 1), Edges.PLACE);
            Edges.due("7 of none", x.shift(0, 7, 1, 0, 0), Edges.PLACE);
            Edges.due("4 and 3", x.shift(0, 4, 1, 0, 3), Edges.PLACE);
            Edges.due("most", x.shift(0, Edges.MOST, 1, 0, 1), Edges.PLACE);
            Edges.due("most of most", x.shift(0, Edges.MOST, 1, 0, Edges.MOST), Edges.PLACE);
            row(x, 1, 11, 12, 13, 14);
        });
        Edges.edge("33 shift: PLACE: j is below 0, or beyond its end", () -> {
            LostSheets x = two();
            Edges.due("-1", x.shift(0, 0, 1, -1, 1), Edges.PLACE);
            Edges.due("-1 of none", x.shift(0, 0, 1, -1, 0), Edges.PLACE);
            Edges.due("least", x.shift(0, 0, 1, Edges.LEAST, 1), Edges.PLACE);
            Edges.due("4", x.shift(0, 0, 1, 4, 1), Edges.PLACE);
            Edges.due("5 of none", x.shift(0, 0, 1, 5, 0), Edges.PLACE);
            Edges.due("2 and 3", x.shift(0, 0, 1, 2, 3), Edges.PLACE);
            Edges.due("most", x.shift(0, 0, 1, Edges.MOST, 1), Edges.PLACE);
            row(x, 1, 11, 12, 13, 14);
        });
        Edges.edge("33 shift: NONE ahead of NOTHING, CAST and PLACE", () -> {
            LostSheets x = two();
            Edges.due("nothing from", x.shift(5, 0, 6, 0, 0), Edges.NONE);
            Edges.due("nothing to", x.shift(-1, 0, 5, 0, 0), Edges.NONE);
            Edges.due("place", x.shift(6, -1, 0, 0, -1), Edges.NONE);
        });
        Edges.edge("33 shift: NOTHING ahead of PLACE", () -> {
            LostSheets x = two();
            Edges.due("from", x.shift(5, -1, 0, 0, 0), Edges.NOTHING);
            Edges.due("to", x.shift(0, 0, 5, 99, -1), Edges.NOTHING);
        });
        Edges.edge("33 shift: CAST ahead of PLACE", () -> {
            LostSheets x = two();
            x.tape(2, SHORTS, 6);
            Edges.due("n", x.shift(0, 0, 2, 0, -1), Edges.CAST);
            Edges.due("i", x.shift(0, 7, 2, 0, 0), Edges.CAST);
            Edges.due("j", x.shift(2, 0, 0, -1, 0), Edges.CAST);
        });
    }

    /** A row of so many bytes: from a place on the marks at first, 9 ahead of it. */
    private static LostSheets judged(int length, int from) {
        LostSheets x = new LostSheets();
        x.tape(0, BYTES, length);
        for (int i = 0; i < length; i++) {
            x.item(0, i, i < from ? 9 : (i - from) % 8);
        }
        return x;
    }

    private static void judge() {
        Edges.edge("23 judge: NONE: tape", () -> {
            LostSheets x = new LostSheets();
            for (int t : NO_TAPES) {
                Edges.due("tape " + t, x.judge(t, 0), Edges.NONE);
                Edges.due("tape ahead of the place " + t, x.judge(t, -1), Edges.NONE);
            }
        });
        Edges.edge("23 judge: 100, the TAPE holds nothing", () -> {
            LostSheets x = new LostSheets();
            Edges.due("0", x.judge(0, 0), 100);
            Edges.due("5", x.judge(5, 7), 100);
            x.tape(5, BYTES, 3);
            x.tape(5, -1, 0);
            Edges.due("again", x.judge(5, 0), 100);
        });
        for (int s = 1; s < 5; s++) {
            int sort = s;
            Edges.edge("23 judge: CAST: it is no row of bytes, of sort " + sort, () -> {
                LostSheets x = new LostSheets();
                x.tape(0, sort, 3);
                Edges.due("0", x.judge(0, 0), Edges.CAST);
                Edges.due("below 0", x.judge(0, -1), Edges.CAST);
                Edges.due("behind", x.judge(0, 3), Edges.CAST);
                x.tape(0, sort, 0);
                Edges.due("a row of none", x.judge(0, 0), Edges.CAST);
            });
        }
        Edges.edge("23 judge: 100, the place is below 0", () -> {
            LostSheets x = judged(16, 0);
            Edges.due("-1", x.judge(0, -1), 100);
            Edges.due("least", x.judge(0, Edges.LEAST), 100);
        });
        Edges.edge("23 judge: 100, the row ends at that place, or ahead of it", () -> {
            LostSheets x = judged(16, 0);
            Edges.due("16", x.judge(0, 16), 100);
            Edges.due("17", x.judge(0, 17), 100);
            Edges.due("most", x.judge(0, Edges.MOST), 100);
            Edges.due("of none", judged(0, 0).judge(0, 0), 100);
        });
        Edges.edge("23 judge: -5: none, CELL by CELL, to the row's end", () -> {
            Edges.due("16 from 0", judged(16, 0).judge(0, 0), Edges.NEVER);
            Edges.due("60 from 44", judged(60, 44).judge(0, 44), Edges.NEVER);
            Edges.due("60 from 0", judged(60, 0).judge(0, 0), Edges.NEVER);
            Edges.due("60 from 8, where marks begin again", judged(60, 0).judge(0, 8), Edges.NEVER);
        });
        Edges.edge("23 judge: 100 and how many were looked at", () -> {
            Edges.due("15", judged(15, 0).judge(0, 0), 115);
            Edges.due("1", judged(1, 0).judge(0, 0), 101);
            Edges.due("15 from 45", judged(60, 45).judge(0, 45), 115);
            Edges.due("1 from 59", judged(60, 59).judge(0, 59), 101);
        });
        Edges.edge("23 judge: the first that is otherwise, counted from that place on", () -> {
            LostSheets x = judged(20, 4);
            x.item(0, 4 + 3, 4);
            x.item(0, 4 + 5, 4);
            Edges.due("3", x.judge(0, 4), 3);
            Edges.due("from the place ahead 0", x.judge(0, 3), 0);
            x.item(0, 4 + 3, 3);
            Edges.due("5", x.judge(0, 4), 5);
        });
        Edges.edge("23 judge: the first and the last of 16", () -> {
            LostSheets x = judged(16, 0);
            x.item(0, 15, 6);
            Edges.due("15", x.judge(0, 0), 15);
            x.item(0, 0, 1);
            Edges.due("0", x.judge(0, 0), 0);
        });
        Edges.edge("23 judge: otherwise ahead of the row's end", () -> {
            LostSheets x = judged(15, 0);
            x.item(0, 14, 0);
            Edges.due("14", x.judge(0, 0), 14);
        });
        Edges.edge("23 judge: a byte is otherwise, also if it is a MARK modulo 8", () -> {
            LostSheets x = judged(16, 0);
            x.item(0, 0, 8);
            Edges.due("8 for 0", x.judge(0, 0), 0);
            x.item(0, 0, 0);
            x.item(0, 7, -1);
            Edges.due("-1 for 7", x.judge(0, 0), 7);
            x.item(0, 7, 7 + 256);
            Edges.due("263 is 7", x.judge(0, 0), Edges.NEVER);
        });
        Edges.edge("23 judge: MARKS as they are now", () -> {
            LostSheets x = judged(16, 0);
            x.mark(9, 6);
            Edges.due("9", x.judge(0, 0), 9);
            x.item(0, 9, 6);
            Edges.due("none", x.judge(0, 0), Edges.NEVER);
        });
    }

    public static void main(String[] args) {
        tape();
        item();
        read();
        shifted();
        shiftRefused();
        judge();
        Edges.end("tapes");
    }
}
