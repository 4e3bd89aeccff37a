/** Asks LostSheets and SheetsModel the same in many long runs, fair and wild numbers mixed. */
public final class ModelTest {
    private static final int RUNS = 1500, CALLS = 512;
    private static final int[] WILD = {Integer.MIN_VALUE, Integer.MIN_VALUE + 1, -10001, -100, -2, -1, 0, 1, 16, 59, 60,
        61, 100, 128, 9999, Integer.MAX_VALUE - 1, Integer.MAX_VALUE};

    private long seed;
    private LostSheets real;
    private SheetsModel model;
    private final StringBuilder calls = new StringBuilder();
    private int left;
    private boolean same = true;

    private int below(int n) {
        seed = seed * 6364136223846793005L + 1442695040888963407L;
        return (int) ((seed >>> 33) % n);
    }

    /** A number that mostly is one of 0 .. n - 1, and now and then beyond or wild. */
    private int about(int n) {
        int dice = below(40);
        return dice == 0 ? WILD[below(WILD.length)] : dice == 1 ? below(2) == 0 ? -1 : n : below(n);
    }

    private long item() {
        return switch (below(4)) {
            case 0 -> below(8);
            case 1 -> 0;
            case 2 -> below(70000) - 35000;
            default -> seed;
        };
    }

    private void same(String call, long got, long due) {
        left--;
        calls.append(call).append(" = ").append(due).append('\n');
        if (got != due && same) {
            same = false;
            System.out.println(calls);
            System.out.println("the last call answered " + got + ", due by the model is " + due);
        }
    }

    private void drawer() {
        int kind = about(7), v = about(10), cell = about(16);
        same("drawer " + kind + " " + v + " " + cell, real.drawer(kind, v, cell), model.drawer(kind, v, cell));
    }

    private void of() {
        int d = about(6), what = about(12);
        same("of " + d + " " + what, real.of(d, what), model.of(d, what));
    }

    private void sheet() {
        int d = about(6), i = about(8);
        same("sheet " + d + " " + i, real.sheet(d, i), model.sheet(d, i));
    }

    private void changeDrawer() {
        int d = about(6), cell = about(16), part = about(4), n = about(10);
        switch (below(3)) {
            case 0 -> same("put " + d + " " + cell, real.put(d, cell), model.put(d, cell));
            case 1 -> same("anew " + d, real.anew(d), model.anew(d));
            default -> same("row " + d + " " + part + " " + n, real.row(d, part, n), model.row(d, part, n));
        }
    }

    private void mark() {
        int cell = about(16), n = about(8);
        same("mark " + cell + " " + n, real.mark(cell, n), model.mark(cell, n));
    }

    private void told() {
        int what = below(3) == 0 ? about(5) : about(46);
        same("told " + what, real.told(what), model.told(what));
    }

    private void pass() {
        int n = below(3) == 0 ? about(61) : about(4);
        same("pass " + n, real.pass(n), model.pass(n));
    }

    private void ahead() {
        int what = below(2) == 0 ? about(2) : 10 + about(6);
        int n = below(2) == 0 ? about(10) : about(61);
        if (below(2) == 0) {
            same("on " + n + " " + what, real.on(n, what), model.on(n, what));
        } else {
            int m = about(13);
            int whom = what == 1 ? 0 : what;
            same("best " + m + " " + whom, real.best(m, whom), model.best(m, whom));
        }
    }

    private void see() {
        int d = below(12) == 0 ? -1 : about(6), n = about(13), mark = about(8);
        if (below(2) == 0 && model.at(d) != null && n >= 0 && n <= 12) {
            SheetsModel.World w = model.now.behind(n);
            mark = w.marks[w.drawers.get(d).at];
        }
        same("see " + d + " " + n + " " + mark, real.see(d, n, mark), model.see(d, n, mark));
    }

    private void likely() {
        int d = about(6), n = about(21), part = about(2), m = about(61);
        switch (below(3)) {
            case 0 -> same("can " + d + " " + part, real.can(d, part), model.can(d, part));
            case 1 -> same("odds " + d + " " + n + " " + part, real.odds(d, n, part), model.odds(d, n, part));
            default -> same("mean " + m + " " + part, real.mean(m, part), model.mean(m, part));
        }
    }

    private void plans() {
        int what = below(15) == 0 ? -1 : below(2) == 0 ? 0 : about(4), n = about(16), end = about(2);
        if (below(3) == 0) {
            same("ends " + end, real.ends(end), model.ends(end));
        } else {
            same("plan " + what + " " + n, real.plan(what, n), model.plan(what, n));
        }
    }

    private void books() {
        int cell = below(15) == 0 ? -1 : about(16), n = below(2) == 0 ? cell & 7 : about(8);
        if (below(3) == 0) {
            same("looked", real.looked(), model.looked());
        } else {
            same("book " + cell + " " + n, real.book(cell, n), model.book(cell, n));
        }
    }

    private void images() {
        int dice = below(4);
        if (dice == 0) {
            same("image", real.image(), model.image());
        } else if (dice == 1) {
            same("undo", real.undo(), model.undo());
        } else {
            int d = about(6), k = about(7);
            same("taken " + d + " " + k, real.taken(d, k), model.taken(d, k));
        }
    }

    private void acts() {
        int d = about(6), act = about(3), x = below(2) == 0 ? below(100) - 50 : (int) seed;
        same("act " + d + " " + act + " " + x, real.act(d, act, x), model.act(d, act, x));
        for (int i = -1; i < 14; i++) {
            same("trace " + i, real.trace(i), model.trace(i));
        }
    }

    private void count() {
        int what = about(7);
        same("count " + what, real.count(what), model.count(what));
    }

    private void tapes() {
        int t = about(6), i = about(20), u = about(6), j = about(20), n = about(10);
        switch (below(5)) {
            case 0 -> {
                int sort = below(6) - 1, size = about(61);
                same("tape " + t + " " + sort + " " + size, real.tape(t, sort, size), model.tape(t, sort, size));
            }
            case 1 -> {
                long v = item();
                same("item " + t + " " + i + " " + v, real.item(t, i, v), model.item(t, i, v));
            }
            case 2 -> same("read " + t + " " + i, real.read(t, i), model.read(t, i));
            case 3 -> same("shift " + t + " " + i + " " + u + " " + j + " " + n, real.shift(t, i, u, j, n),
                model.shift(t, i, u, j, n));
            default -> judge(t, i);
        }
    }

    private void judge(int t, int i) {
        if (below(3) == 0 && t >= 0 && t < 6) {
            int size = 10 + below(20), from = below(size);
            same("tape " + t + " 0 " + size, real.tape(t, 0, size), model.tape(t, 0, size));
            for (int c = 0; c < 16; c++) {
                long v = model.now.marks[c];
                same("item", real.item(t, from + c, v), model.item(t, from + c, v));
            }
            same("judge " + t + " " + from, real.judge(t, from), model.judge(t, from));
        }
        same("judge " + t + " " + i, real.judge(t, i), model.judge(t, i));
    }

    // ---- offices

    private String number() {
        return below(6) == 0 ? "0" + below(10) : below(4) == 0 ? "" + below(100) : "" + below(8);
    }

    private String factor(int within) {
        int dice = below(within > 4 ? 4 : 7);
        if (dice < 4) {
            return "" + "pkvmsh".charAt(below(6)) + "<=>".charAt(below(3)) + number();
        }
        return dice == 4 ? "!" + factor(within + 1) : "(" + either(within + 1) + ")";
    }

    private String either(int within) {
        String e = factor(within);
        while (below(3) == 0) {
            e += (below(2) == 0 ? "&" : "|") + factor(within);
        }
        return e;
    }

    private String someOffice() {
        int clauses = below(8) == 0 ? 8 + below(4) : 1 + below(4);
        StringBuilder t = new StringBuilder();
        for (int i = 0; i < clauses; i++) {
            t.append(i == 0 ? "" : ";");
            int dice = below(clauses > 7 ? 12 : 4);
            if (dice == 1 || dice == 2) {
                t.append(dice == 1 ? "turn " : "back ").append(number()).append(' ').append(either(0));
            } else {
                t.append("know ").append(number());
            }
        }
        int dice = below(5);
        if (dice == 0 && t.length() > 0) {
            t.setLength(below(t.length()));
        } else if (dice == 1) {
            t.setCharAt(below(t.length()), "turnbackow ;!()&|pkvmsh<=>0123456789".charAt(below(36)));
        } else if (dice == 2 && below(2) == 0) {
            t.insert(below(t.length() + 1), "turnbackow ;!()&|pkvmsh<=>0123456789".charAt(below(36)));
        }
        return t.toString();
    }

    private void office() {
        String t = someOffice();
        if (t.length() > left - 20) {
            return;
        }
        for (int i = 0; i < t.length(); i++) {
            same("feed " + t.charAt(i), real.feed(t.charAt(i)), model.feed(t.charAt(i)));
        }
        int wild = about(128);
        if (below(10) == 0) {
            same("feed " + wild, real.feed(wild), model.feed(wild));
        }
        same("office " + t, real.office(), model.office());
        same("told 1", real.told(1), model.told(1));
        for (int d = 0; d < 6; d++) {
            same("of " + d + " 6", real.of(d, 6), model.of(d, 6));
        }
    }

    private void call() {
        switch (below(28)) {
            case 0 -> drawer();
            case 1, 2, 3, 4, 5 -> of();
            case 6 -> sheet();
            case 7, 8 -> changeDrawer();
            case 9 -> mark();
            case 10, 11 -> told();
            case 12, 13 -> pass();
            case 14, 15 -> ahead();
            case 16, 17 -> see();
            case 18, 19 -> likely();
            case 20 -> plans();
            case 21 -> books();
            case 22 -> images();
            case 23 -> acts();
            case 24 -> count();
            case 25, 26 -> tapes();
            default -> {
                if (below(3) == 0) {
                    office();
                }
            }
        }
    }

    private boolean run(int number) {
        seed = number * 7919L + 17;
        below(2);
        real = new LostSheets();
        model = new SheetsModel();
        calls.setLength(0);
        left = CALLS;
        int drawers = below(7);
        for (int i = 0; i < drawers; i++) {
            drawer();
        }
        if (below(12) == 0) {
            for (int i = 0; i < 165 + below(3); i++) {
                same("pass 60", real.pass(60), model.pass(60));
            }
        }
        while (left > 40 && same) {
            call();
        }
        return same;
    }

    public static void main(String[] args) {
        ModelTest test = new ModelTest();
        for (int i = 0; i < RUNS; i++) {
            if (!test.run(i)) {
                System.out.println("run " + i + " differs");
                System.exit(1);
            }
        }
        System.out.println("all answers are the model's");
    }
}
