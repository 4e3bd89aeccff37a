import java.util.ArrayList;
import java.util.List;

/**
 * "What is answered so changes nothing; what is asked changes nothing": two objects are made alike, one is refused or
 * asked much besides, and then all that can be read of both is compared.
 */
public final class NothingChangesTest {
    private static final int MOST_DRAWERS = 6;

    private static List<Long> allThatCanBeRead(LostSheets x) {
        List<Long> read = new ArrayList<>();
        for (int what = 0; what < 7; what++) {
            read.add((long) x.count(what));
        }
        for (int what = 0; what < 5; what++) {
            read.add((long) x.told(what));
        }
        for (int cell = 0; cell < 16; cell++) {
            read.add((long) x.told(10 + cell));
            read.add((long) x.told(30 + cell));
        }
        for (int d = 0; d < MOST_DRAWERS; d++) {
            for (int what = 0; what < 12; what++) {
                read.add((long) x.of(d, what));
            }
            for (int i = 0; i < 3; i++) {
                read.add((long) x.sheet(d, i));
            }
        }
        for (int i = 0; i < 3; i++) {
            read.add((long) x.trace(i));
            read.add(x.read(i, 0));
            read.add(x.read(i, 1));
        }
        read.add((long) x.looked());
        read.add((long) x.ends(0));
        read.add((long) x.ends(1));
        return read;
    }

    private static void alike(String when, LostSheets x, LostSheets y) {
        List<Long> one = allThatCanBeRead(x);
        List<Long> other = allThatCanBeRead(y);
        for (int i = 0; i < one.size(); i++) {
            Edges.due(when + ", the " + i + ". answer", one.get(i), other.get(i));
        }
    }

    /** All is told, and there is room for more of everything. */
    private static LostSheets told() {
        LostSheets x = Edges.with("turn 1 m>3;back 2 k=6;know 4", 3, 1, 5, 6, 2, 6, 5, 3, 9, 4, 0, 9);
        x.row(1, 2, 7);
        x.mark(3, 0);
        x.see(0, 0, 5);
        x.see(1, 3, 4);
        x.plan(0, 0);
        x.plan(3, 9);
        x.book(4, 4);
        x.book(5, 4);
        x.tape(0, 0, 4);
        x.item(0, 1, 1);
        x.tape(1, 1, 4);
        x.item(1, 0, 300);
        Edges.feed(x, "kn");
        x.image();
        x.pass(2);
        x.act(1, 1, 4);
        return x;
    }

    /** All is told, and there is room for nothing more. */
    private static LostSheets full() {
        LostSheets x = Edges.with("", 3, 1, 5, 6, 2, 6, 5, 3, 9, 4, 0, 9, 1, 1, 2, 2, 9, 15);
        for (int i = 0; i < 6; i++) {
            Edges.due("office", Edges.office(x, "know " + i), i);
        }
        for (int i = 0; i < 100; i++) {
            x.feed('k');
        }
        for (int i = 0; i < 5; i++) {
            x.see(i, i, 3);
        }
        for (int i = 0; i < 10; i++) {
            x.plan(i % 2 * 3, 5);
        }
        for (int i = 0; i < 8; i++) {
            x.book(i, i);
        }
        x.image();
        x.pass(2);
        x.act(1, 1, 4);
        return x;
    }

    private static void refusedDrawers(LostSheets x) {
        Edges.due("drawer", x.drawer(7, 0, 0), Edges.NONE);
        Edges.due("drawer", x.drawer(0, 0, -1), Edges.NONE);
        Edges.due("drawer", x.drawer(0, 10, 0), Edges.BAD);
        Edges.due("of", x.of(6, 0), Edges.NONE_BELOW);
        Edges.due("of", x.of(0, 12), Edges.NONE_BELOW);
        Edges.due("sheet", x.sheet(0, 8), Edges.NONE);
        Edges.due("put", x.put(6, 0), Edges.NONE);
        Edges.due("put", x.put(0, 16), Edges.NONE);
        Edges.due("anew", x.anew(6), Edges.NONE);
        Edges.due("anew", x.anew(-1), Edges.NONE);
        Edges.due("mark", x.mark(16, 0), Edges.NONE);
        Edges.due("mark", x.mark(0, 8), Edges.BAD);
        Edges.due("mark", x.mark(0, -1), Edges.BAD);
        Edges.due("row", x.row(6, 0, 0), Edges.NONE);
        Edges.due("row", x.row(1, 4, 0), Edges.NONE);
        Edges.due("row", x.row(1, 2, 10), Edges.BAD);
        Edges.due("row", x.row(0, 2, 9), Edges.STATE);
        Edges.due("feed", x.feed(-1), Edges.BAD);
        Edges.due("feed", x.feed(128), Edges.BAD);
    }

    private static void refusedHours(LostSheets x) {
        Edges.due("told", x.told(5), Edges.NONE);
        Edges.due("pass", x.pass(-1), Edges.BAD);
        Edges.due("pass", x.pass(61), Edges.BAD);
        Edges.due("on", x.on(1, 2), Edges.NONE);
        Edges.due("on", x.on(61, 0), Edges.BAD);
        Edges.due("best", x.best(1, 1), Edges.NONE);
        Edges.due("best", x.best(13, 10), Edges.BAD);
        Edges.due("see", x.see(6, 0, 0), Edges.NONE);
        Edges.due("see", x.see(-2, 0, 0), Edges.NONE);
        Edges.due("see", x.see(0, 13, 0), Edges.BAD);
        Edges.due("see", x.see(0, 0, 8), Edges.BAD);
        Edges.due("can", x.can(6, 0), Edges.NONE);
        Edges.due("can", x.can(0, 2), Edges.NONE);
        Edges.due("odds", x.odds(6, 0, 0), Edges.NO);
        Edges.due("odds", x.odds(0, 21, 0), Edges.NO);
        Edges.due("mean", x.mean(61, 0), Edges.NO);
        Edges.due("mean", x.mean(0, 2), Edges.NO);
    }

    private static void refusedByHand(LostSheets x) {
        Edges.due("plan", x.plan(4, 0), Edges.NONE);
        Edges.due("plan", x.plan(-2, 0), Edges.NONE);
        Edges.due("plan", x.plan(1, 6), Edges.NONE);
        Edges.due("plan", x.plan(2, -1), Edges.NONE);
        Edges.due("plan", x.plan(3, 16), Edges.NONE);
        Edges.due("ends", x.ends(2), Edges.NONE);
        Edges.due("book", x.book(16, 0), Edges.NONE);
        Edges.due("book", x.book(-2, 0), Edges.NONE);
        Edges.due("book", x.book(0, 8), Edges.BAD);
        Edges.due("trace", x.trace(20), Edges.NONE);
        Edges.due("taken", x.taken(0, 7), Edges.BAD);
        Edges.due("taken", x.taken(6, 0), Edges.NOTHING);
        Edges.due("taken", x.taken(0, 1), Edges.CAST);
        Edges.due("count", x.count(7), Edges.BAD);
    }

    private static void refusedTapes(LostSheets x) {
        Edges.due("judge", x.judge(6, 0), Edges.NONE);
        Edges.due("judge", x.judge(1, 0), Edges.CAST);
        Edges.due("tape", x.tape(6, 0, 0), Edges.NONE);
        Edges.due("tape", x.tape(0, 5, 0), Edges.BAD);
        Edges.due("tape", x.tape(0, 1, 61), Edges.BAD);
        Edges.due("tape", x.tape(0, 1, -1), Edges.SIZE);
        Edges.due("item", x.item(6, 0, 9), Edges.NONE);
        Edges.due("item", x.item(5, 0, 9), Edges.NOTHING);
        Edges.due("item", x.item(0, 4, 9), Edges.PLACE);
        Edges.due("read", x.read(0, 4), Edges.NO);
        Edges.due("shift", x.shift(6, 0, 0, 0, 1), Edges.NONE);
        Edges.due("shift", x.shift(5, 0, 0, 0, 1), Edges.NOTHING);
        Edges.due("shift", x.shift(1, 0, 0, 0, 1), Edges.CAST);
        Edges.due("shift", x.shift(0, 1, 0, 0, 4), Edges.PLACE);
        Edges.due("shift", x.shift(0, 1, 0, 0, -1), Edges.PLACE);
    }

    private static void refusedWhenFull(LostSheets x) {
        Edges.due("drawer", x.drawer(0, 5, 0), Edges.FULL);
        Edges.due("feed", x.feed('k'), Edges.FULL);
        Edges.due("office", x.office(), Edges.FULL);
        Edges.due("see", x.see(0, 0, 7), Edges.FULL);
        Edges.due("plan", x.plan(0, 0), Edges.FULL);
        Edges.due("book", x.book(0, 7), Edges.FULL);
    }

    private static void asked(LostSheets x) {
        for (int n = 0; n <= 60; n += 20) {
            x.on(n, 0);
            x.on(n, 1);
            x.on(n, 12);
            x.mean(n, 0);
        }
        for (int n = 1; n <= 12; n++) {
            x.best(n, 0);
            x.best(n, 11);
            x.odds(1, n, n % 2);
        }
        for (int d = 0; d < 4; d++) {
            x.can(d, 0);
            x.can(d, 1);
            x.taken(d, 0);
        }
        x.judge(0, 0);
        x.judge(0, -1);
        x.judge(1, 0);
        x.trace(0);
    }

    private static void goOn(LostSheets x) {
        x.pass(1);
        Edges.office(x, "ow 2");
        x.pass(1);
    }

    private static void refusals() {
        Edges.edge("what is answered so changes nothing: with room for more", () -> {
            LostSheets x = told();
            LostSheets y = told();
            refusedDrawers(x);
            refusedHours(x);
            refusedByHand(x);
            refusedTapes(x);
            alike("then", x, y);
            Edges.due("office", Edges.office(x, "ow 2"), 1);
            Edges.due("know", x.told(1), 2);
            Edges.due("row", x.row(1, 2, 0), 7);
        });
        Edges.edge("what is answered so changes nothing: with room for nothing more", () -> {
            LostSheets x = full();
            LostSheets y = full();
            refusedWhenFull(x);
            refusedHours(x);
            alike("then", x, y);
        });
        Edges.edge("what is answered so changes nothing: not THE IMAGE, nor whether there is one", () -> {
            LostSheets x = new LostSheets();
            refusedHoursOfNobody(x);
            Edges.due("undo", x.undo(), Edges.STATE);
            Edges.due("undo again", x.undo(), Edges.STATE);
            LostSheets y = told();
            refusedDrawers(y);
            refusedHours(y);
            refusedByHand(y);
            refusedTapes(y);
            Edges.due("undo", y.undo(), 4);
            LostSheets z = told();
            z.undo();
            alike("behind undo", y, z);
        });
    }

    private static void refusedHoursOfNobody(LostSheets x) {
        Edges.due("pass", x.pass(61), Edges.BAD);
        Edges.due("put", x.put(0, 0), Edges.NONE);
        Edges.due("see", x.see(0, 0, 0), Edges.NONE);
        Edges.due("plan", x.plan(1, 0), Edges.NONE);
    }

    private static void questions() {
        Edges.edge("what is asked changes nothing: all that can be read", () -> {
            LostSheets x = told();
            allThatCanBeRead(x);
            alike("then", x, told());
        });
        Edges.edge("what is asked changes nothing: on, best, odds, mean, can, taken, judge, trace", () -> {
            LostSheets x = told();
            asked(x);
            alike("then", x, told());
        });
        Edges.edge("what is asked changes nothing: what comes then goes as if nothing had been asked", () -> {
            LostSheets x = told();
            LostSheets y = told();
            asked(x);
            allThatCanBeRead(x);
            goOn(x);
            goOn(y);
            alike("behind hours", x, y);
        });
        Edges.edge("what is asked changes nothing: not THE IMAGE", () -> {
            LostSheets x = told();
            LostSheets y = told();
            asked(x);
            allThatCanBeRead(x);
            Edges.due("undo", x.undo(), 4);
            Edges.due("undo", y.undo(), 4);
            alike("behind undo", x, y);
        });
        Edges.edge("what is asked changes nothing: each by itself", () -> {
            LostSheets x = told();
            LostSheets y = told();
            for (int drawer = 0; drawer < 4; drawer++) {
                int d = drawer;
                for (int what = 6; what < 12; what++) {
                    x.of(d, what);
                    Edges.due("hour behind of " + what, x.told(0), y.told(0));
                    Edges.due("at behind of " + what, x.of(d, 2), y.of(d, 2));
                }
            }
            x.told(4);
            Edges.due("drawn behind told 4", x.told(2), y.told(2));
            x.told(35);
            Edges.due("mark behind told 35", x.told(15), y.told(15));
            x.ends(0);
            Edges.due("mark behind ends", x.told(19), y.told(19));
            Edges.due("hour behind ends", x.told(0), y.told(0));
            x.can(0, 0);
            Edges.due("v behind can", x.of(0, 1), y.of(0, 1));
            x.best(3, 0);
            Edges.due("done behind best", x.told(3), y.told(3));
        });
    }

    public static void main(String[] args) {
        refusals();
        questions();
        Edges.end("what changes nothing");
    }
}
