import java.util.ArrayDeque;
import java.util.ArrayList;
import java.util.Arrays;
import java.util.Deque;
import java.util.List;

/**
 * The document told a second time, as slowly and as near its words as can be: ModelTest asks it and LostSheets the
 * same things. It shares no code with LostSheets: an office stays a text here and is cut up each time, acts are
 * Java's own inheritance, and every question works on a whole copy.
 */
final class SheetsModel {
    static final int NONE = -1, BAD = -2, STATE = -3, FULL = -4, NEVER = -5;
    static final long NO = Long.MIN_VALUE;

    // ---- drawers, and what they do as acts

    static class Drawer {
        int number, kind, v, at, drew;
        boolean done;
        List<int[]> sheet = new ArrayList<>();
        int[] row = new int[4];
        List<Integer> ran;

        int weeps(int x) { ran.add(10); return x + number; }
        int draws(int x) { ran.add(11); return weeps(x) - v; }
        int tells(int x) { ran.add(12); return draws(x) * 2; }
    }

    static class Clerk extends Drawer {
        @Override int draws(int x) { ran.add(20); return super.draws(x) ^ 6; }
    }

    static class Child extends Drawer {
        @Override int weeps(int x) { ran.add(30); return super.weeps(x * 3); }
    }

    static class Lover extends Drawer {
        @Override int tells(int x) { ran.add(40); return super.tells(x) + draws(1); }
    }

    static class General extends Clerk {
        @Override int weeps(int x) { ran.add(50); return -super.weeps(x); }
        @Override int draws(int x) { ran.add(51); return super.draws(x + 1); }
    }

    static class Shepherd extends Child {
        @Override int tells(int x) { ran.add(60); return super.tells(x - number); }
    }

    static class Told extends Lover {
        @Override int draws(int x) { ran.add(70); return super.draws(x) + super.weeps(2); }
        @Override int weeps(int x) { ran.add(71); return super.weeps(x) ^ v; }
    }

    static Drawer made(int kind) {
        Drawer d = switch (kind) {
            case 1 -> new Clerk();
            case 2 -> new Child();
            case 3 -> new Lover();
            case 4 -> new General();
            case 5 -> new Shepherd();
            case 6 -> new Told();
            default -> new Drawer();
        };
        d.kind = kind;
        return d;
    }

    static final Class<?>[] CLASSES = {Drawer.class, Clerk.class, Child.class, Lover.class, General.class,
        Shepherd.class, Told.class};

    // ---- all that an image holds

    static final class World {
        int[] marks = new int[16];
        boolean[] drawn = new boolean[16];
        List<Drawer> drawers = new ArrayList<>();
        int hour;
        String office;
        List<int[]> seen = new ArrayList<>(), plan = new ArrayList<>(), book = new ArrayList<>();

        World copy() {
            World w = new World();
            w.marks = marks.clone();
            w.drawn = drawn.clone();
            for (Drawer d : drawers) {
                Drawer e = made(d.kind);
                e.number = d.number;
                e.v = d.v;
                e.at = d.at;
                e.drew = d.drew;
                e.done = d.done;
                for (int[] r : d.sheet) {
                    e.sheet.add(r.clone());
                }
                e.row = d.row.clone();
                w.drawers.add(e);
            }
            w.hour = hour;
            w.office = office;
            w.seen.addAll(seen);
            w.plan.addAll(plan);
            w.book.addAll(book);
            return w;
        }

        int know() {
            int know = 3;
            for (String clause : clauses()) {
                if (clause.startsWith("know")) {
                    know = Integer.parseInt(clause.substring(5));
                }
            }
            return know;
        }

        String[] clauses() {
            return office == null ? new String[0] : office.split(";");
        }

        int sum(Drawer d) {
            int sum = d.v + hour % 10;
            for (String clause : clauses()) {
                String[] parts = clause.split(" ");
                if (parts[0].equals("turn") && holds(parts[2], d)) {
                    sum += Integer.parseInt(parts[1]);
                }
                if (parts[0].equals("back") && holds(parts[2], d)) {
                    sum -= Integer.parseInt(parts[1]);
                }
            }
            return sum;
        }

        /** The places of a sign that stand in no brackets. */
        static int outside(String e, char sign) {
            int open = 0;
            for (int i = 0; i < e.length(); i++) {
                char c = e.charAt(i);
                open += c == '(' ? 1 : c == ')' ? -1 : 0;
                if (open == 0 && c == sign) {
                    return i;
                }
            }
            return -1;
        }

        boolean holds(String e, Drawer d) {
            for (char sign : new char[] {'|', '&'}) {
                int i = outside(e, sign);
                if (i >= 0) {
                    boolean left = holds(e.substring(0, i), d);
                    boolean right = holds(e.substring(i + 1), d);
                    return sign == '|' ? left || right : left && right;
                }
            }
            if (e.startsWith("!")) {
                return !holds(e.substring(1), d);
            }
            if (e.startsWith("(")) {
                return holds(e.substring(1, e.length() - 1), d);
            }
            int value = switch (e.charAt(0)) {
                case 'p' -> d.number;
                case 'k' -> d.kind;
                case 'v' -> d.v;
                case 'm' -> marks[d.at];
                case 's' -> d.sheet.size();
                case 'h' -> hour % 10;
                default -> throw new IllegalStateException(e);
            };
            int number = Integer.parseInt(e.substring(2));
            return switch (e.charAt(1)) {
                case '<' -> value < number;
                case '=' -> value == number;
                case '>' -> value > number;
                default -> throw new IllegalStateException(e);
            };
        }

        int others(Drawer d) {
            int others = 0;
            for (Drawer o : drawers) {
                others += o != d && o.at == d.at ? 1 : 0;
            }
            return others;
        }

        int feel(Drawer d) {
            if (d instanceof Told) {
                return sum(d) + others(d) + d.row[hour % 4];
            }
            if (d instanceof Shepherd) {
                return (int) (sum(d) / 2.0) + marks[d.at];
            }
            if (d instanceof General && d.sheet.isEmpty()) {
                return (sum(d) + d.v) * 2 + 1;
            }
            if (d instanceof Clerk) {
                return sum(d) + d.v;
            }
            if (d instanceof Child) {
                return (int) (sum(d) / 2.0);
            }
            return d instanceof Lover ? sum(d) + others(d) : sum(d);
        }

        int way(Drawer d) {
            int f = feel(d);
            while (f < 0) {
                f += 4;
            }
            return f % 4;
        }

        static int step(int cell, int way) {
            int line = cell / 4 + new int[] {-1, 0, 0, 1}[way];
            int column = cell % 4 + new int[] {0, -1, 1, 0}[way];
            return line < 0 || line > 3 || column < 0 || column > 3 ? cell : 4 * line + column;
        }

        void hour(boolean really) {
            int[] ways = new int[6];
            boolean[] go = new boolean[6];
            for (Drawer d : drawers) {
                go[d.number] = !d.done && d.sheet.size() < 8;
                ways[d.number] = way(d);
            }
            int know = know();
            for (Drawer d : drawers) {
                if (!go[d.number]) {
                    continue;
                }
                d.at = step(d.at, ways[d.number]);
                int mark = marks[d.at];
                d.sheet.add(new int[] {ways[d.number], mark});
                drawn[d.at] = true;
                d.drew = really ? Math.min(9999, d.drew + 1) : d.drew + 1;
                if (d.sheet.stream().filter(r -> r[1] == mark).count() >= know) {
                    d.done = true;
                }
            }
            hour++;
        }

        World behind(int n) {
            World w = copy();
            for (int i = 0; i < n; i++) {
                w.hour(false);
            }
            return w;
        }

        int drawnBits() {
            int bits = 0;
            for (int c = 0; c < 16; c++) {
                bits += drawn[c] ? 1 << c : 0;
            }
            return bits;
        }

        int drawnCount() {
            return Integer.bitCount(drawnBits());
        }

        int doneBits() {
            int bits = 0;
            for (Drawer d : drawers) {
                bits += d.done ? 1 << d.number : 0;
            }
            return bits;
        }

        int drewAll() {
            return drawers.stream().mapToInt(d -> d.drew).sum();
        }

        boolean seenIsSo() {
            for (int[] s : seen) {
                World w = behind(s[1]);
                if (w.marks[w.drawers.get(s[0]).at] != s[2]) {
                    return false;
                }
            }
            return true;
        }

        World with(int drawer, int cell) {
            World w = copy();
            w.drawers.get(drawer).at = cell;
            return w;
        }
    }

    // ---- the object

    World now = new World();
    World image = null;
    List<String> offices = new ArrayList<>();
    StringBuilder text = new StringBuilder();
    List<Integer> ran = new ArrayList<>();
    Object[] tapes = new Object[6];

    SheetsModel() {
        for (int c = 0; c < 16; c++) {
            now.marks[c] = c % 8;
        }
    }

    Drawer at(int i) {
        return i < 0 || i >= now.drawers.size() ? null : now.drawers.get(i);
    }

    static boolean in(int n, int least, int most) {
        return n >= least && n <= most;
    }

    int drawer(int kind, int v, int cell) {
        if (!in(kind, 0, 6) || !in(cell, 0, 15)) {
            return NONE;
        }
        if (!in(v, 0, 9)) {
            return BAD;
        }
        if (now.drawers.size() == 6) {
            return FULL;
        }
        Drawer d = made(kind);
        d.number = now.drawers.size();
        d.v = v;
        d.at = cell;
        now.drawers.add(d);
        return d.number;
    }

    int of(int drawer, int what) {
        Drawer d = at(drawer);
        if (d == null || !in(what, 0, 11)) {
            return -10001;
        }
        return switch (what) {
            case 0 -> d.kind;
            case 1 -> d.v;
            case 2 -> d.at;
            case 3 -> d.sheet.size();
            case 4 -> d.done ? 1 : 0;
            case 5 -> d.drew;
            case 6 -> now.feel(d);
            case 7 -> now.way(d);
            case 8 -> gone(d, false);
            case 9 -> gone(d, true);
            case 10 -> look(d);
            default -> places(d);
        };
    }

    int gone(Drawer d, boolean end) {
        int bits = 0;
        for (int c = 0; c < 16; c++) {
            int x = c;
            boolean good = true;
            for (int[] r : d.sheet) {
                x = World.step(x, r[0]);
                good &= now.marks[x] == r[1];
            }
            bits |= good ? 1 << (end ? x : c) : 0;
        }
        return bits;
    }

    int look(Drawer d) {
        int here = gone(d, true);
        if (here == 0) {
            return NEVER;
        }
        int[] worst = new int[4];
        for (int way = 0; way < 4; way++) {
            for (int mark = 0; mark < 8; mark++) {
                int n = 0;
                for (int c = 0; c < 16; c++) {
                    n += (here & 1 << c) != 0 && now.marks[World.step(c, way)] == mark ? 1 : 0;
                }
                worst[way] = Math.max(worst[way], n);
            }
        }
        int least = Arrays.stream(worst).min().getAsInt();
        for (int way = 0; way < 4; way++) {
            if (worst[way] == least) {
                return way;
            }
        }
        throw new IllegalStateException();
    }

    int places(Drawer d) {
        int bits = 0;
        for (int c = 0; c < 16; c++) {
            bits |= now.with(d.number, c).seenIsSo() ? 1 << c : 0;
        }
        return bits;
    }

    int sheet(int drawer, int i) {
        Drawer d = at(drawer);
        return d == null || !in(i, 0, d.sheet.size() - 1) ? NONE : d.sheet.get(i)[0] * 10 + d.sheet.get(i)[1];
    }

    int put(int drawer, int cell) {
        Drawer d = at(drawer);
        if (d == null || !in(cell, 0, 15)) {
            return NONE;
        }
        int was = d.at;
        d.at = cell;
        return was;
    }

    int anew(int drawer) {
        Drawer d = at(drawer);
        if (d == null) {
            return NONE;
        }
        int had = d.sheet.size();
        d.sheet.clear();
        d.done = false;
        return had;
    }

    int mark(int cell, int n) {
        if (!in(cell, 0, 15)) {
            return NONE;
        }
        if (!in(n, 0, 7)) {
            return BAD;
        }
        int was = now.marks[cell];
        now.marks[cell] = n;
        return was;
    }

    int row(int drawer, int part, int n) {
        Drawer d = at(drawer);
        if (d == null || !in(part, 0, 3)) {
            return NONE;
        }
        if (!in(n, 0, 9)) {
            return BAD;
        }
        if (!(d instanceof Told)) {
            return STATE;
        }
        int was = d.row[part];
        d.row[part] = n;
        return was;
    }

    int feed(int sign) {
        if (!in(sign, 0, 127)) {
            return BAD;
        }
        if (text.length() == 100) {
            return FULL;
        }
        text.append((char) sign);
        return text.length();
    }

    int office() {
        if (offices.size() == 6) {
            return FULL;
        }
        String t = text.toString();
        text.setLength(0);
        int fault = fault(t);
        if (fault >= 0) {
            return -10 - fault;
        }
        offices.add(t);
        now.office = t;
        return offices.size() - 1;
    }

    /** Sign by sign, with what may come next: a machine with a stack of the ( and ! that are open. */
    static int fault(String t) {
        Deque<Character> open = new ArrayDeque<>();
        int clauses = 0;
        String word = null;
        String phase = "clause";
        for (int i = 0; i < t.length(); i++) {
            char c = t.charAt(i);
            boolean digit = c >= '0' && c <= '9';
            String next = null;
            switch (phase) {
                case "clause" -> {
                    word = c == 't' ? "turn " : c == 'b' ? "back " : c == 'k' ? "know " : null;
                    clauses++;
                    next = word == null ? null : "word1";
                }
                case "word1", "word2", "word3", "word4" -> {
                    int k = phase.charAt(4) - '0';
                    next = word.charAt(k) == c ? k == 4 ? "n0" : "word" + (k + 1) : null;
                }
                case "n0" -> next = digit ? "n1" : null;
                case "n1", "n2" -> {
                    if (digit && phase.equals("n1")) {
                        next = "n2";
                    } else if (word.equals("know ")) {
                        next = c == ';' && clauses < 10 ? "clause" : null;
                    } else {
                        next = c == ' ' ? "F" : null;
                    }
                }
                case "F" -> {
                    if ((c == '!' || c == '(') && open.size() < 4) {
                        open.push(c);
                        next = "F";
                    } else if ("pkvmsh".indexOf(c) >= 0) {
                        next = "sign";
                    }
                }
                case "sign" -> next = "<=>".indexOf(c) >= 0 ? "t0" : null;
                case "t0" -> next = digit ? "t1" : null;
                default -> {
                    if (digit && phase.equals("t1")) {
                        next = "t2";
                        break;
                    }
                    closeNots(open);
                    if (c == '&' || c == '|') {
                        next = "F";
                    } else if (c == ')' && !open.isEmpty()) {
                        open.pop();
                        next = "behind";
                    } else if (c == ';' && open.isEmpty() && clauses < 10) {
                        next = "clause";
                    }
                }
            }
            if (next == null) {
                return i;
            }
            phase = next;
        }
        closeNots(phase.equals("t1") || phase.equals("t2") || phase.equals("behind") ? open : new ArrayDeque<>());
        boolean knows = (phase.equals("n1") || phase.equals("n2")) && word.equals("know ");
        boolean tested = phase.equals("t1") || phase.equals("t2") || phase.equals("behind");
        return open.isEmpty() && (knows || tested) ? -1 : t.length();
    }

    static void closeNots(Deque<Character> open) {
        while (!open.isEmpty() && open.peek() == '!') {
            open.pop();
        }
    }

    int told(int what) {
        if (in(what, 10, 25)) {
            return now.marks[what - 10];
        }
        if (in(what, 30, 45)) {
            int bits = 0;
            for (int m = 0; m < 8; m++) {
                World w = now.copy();
                w.marks[what - 30] = m;
                bits |= w.seenIsSo() ? 1 << m : 0;
            }
            return bits;
        }
        return switch (what) {
            case 0 -> now.hour;
            case 1 -> now.know();
            case 2 -> now.drawnBits();
            case 3 -> now.doneBits();
            case 4 -> whole();
            default -> NONE;
        };
    }

    int whole() {
        World w = now.copy();
        for (int n = 0; n <= 60; n++) {
            if (w.drawnBits() == 65535) {
                return n;
            }
            w.hour(false);
        }
        return NEVER;
    }

    int pass(int n) {
        if (!in(n, 0, 60)) {
            return BAD;
        }
        if (now.hour + n > 9999) {
            return STATE;
        }
        for (int i = 0; i < n; i++) {
            now.hour(true);
        }
        return now.hour;
    }

    int on(int n, int what) {
        if (!in(what, 0, 1) && !in(what, 10, 9 + now.drawers.size())) {
            return NONE;
        }
        if (!in(n, 0, 60)) {
            return BAD;
        }
        World w = now.behind(n);
        return what == 0 ? w.drawnBits() : what == 1 ? w.doneBits() : w.drawers.get(what - 10).at;
    }

    int best(int n, int what) {
        if (what != 0 && !in(what, 10, 9 + now.drawers.size())) {
            return NONE;
        }
        if (!in(n, 1, 12)) {
            return BAD;
        }
        if (what != 0) {
            int[] drawn = new int[16];
            for (int c = 0; c < 16; c++) {
                drawn[c] = now.with(what - 10, c).behind(n).drawnCount();
            }
            int most = Arrays.stream(drawn).max().getAsInt();
            int c = 0;
            while (drawn[c] != most) {
                c++;
            }
            return c;
        }
        int asItIs = now.behind(n).drawnCount();
        for (int size = 0; size <= 6; size++) {
            for (int set = 0; set < 1 << now.drawers.size(); set++) {
                if (Integer.bitCount(set) != size) {
                    continue;
                }
                World w = now.copy();
                for (Drawer d : w.drawers) {
                    d.done |= (set & 1 << d.number) == 0;
                }
                if (w.behind(n).drawnCount() >= asItIs) {
                    return set;
                }
            }
        }
        return NEVER;
    }

    int see(int drawer, int n, int mark) {
        if (drawer == -1) {
            now.seen.clear();
            return 0;
        }
        if (at(drawer) == null) {
            return NONE;
        }
        if (!in(n, 0, 12) || !in(mark, 0, 7)) {
            return BAD;
        }
        return added(now.seen, 5, drawer, n, mark);
    }

    static int added(List<int[]> rows, int most, int... row) {
        if (rows.size() == most) {
            return FULL;
        }
        rows.add(row);
        return rows.size();
    }

    int can(int drawer, int what) {
        if (at(drawer) == null || !in(what, 0, 1)) {
            return NONE;
        }
        List<Integer> possible = new ArrayList<>();
        for (int v = 0; v <= 9; v++) {
            World w = now.copy();
            w.drawers.get(drawer).v = v;
            if (w.seenIsSo()) {
                possible.add(v);
            }
        }
        return what == 0 ? possible.size() : possible.isEmpty() ? NEVER : possible.get(0);
    }

    static long fraction(long above, long below, int part) {
        for (long d = Math.max(above, below); d > 1; d--) {
            if (above % d == 0 && below % d == 0) {
                above /= d;
                below /= d;
            }
        }
        return part == 0 ? above : below;
    }

    long odds(int drawer, int n, int part) {
        if (at(drawer) == null || !in(n, 0, 20) || !in(part, 0, 1)) {
            return NO;
        }
        int done = 0;
        for (int c = 0; c < 16; c++) {
            done += now.with(drawer, c).behind(n).drawers.get(drawer).done ? 1 : 0;
        }
        return fraction(done, 16, part);
    }

    long mean(int n, int part) {
        if (now.drawers.isEmpty() || !in(n, 0, 60) || !in(part, 0, 1)) {
            return NO;
        }
        return fraction(now.behind(n).drewAll(), now.drawers.size(), part);
    }

    int plan(int what, int n) {
        if (what == -1) {
            now.plan.clear();
            return 0;
        }
        if (!in(what, 0, 3) || (what == 1 || what == 2) && at(n) == null || what == 3 && !in(n, 0, 15)) {
            return NONE;
        }
        return added(now.plan, 10, what, n);
    }

    int ends(int what) {
        if (!in(what, 0, 1)) {
            return NONE;
        }
        World w = now.copy();
        for (int[] r : now.plan) {
            switch (r[0]) {
                case 0 -> w.hour(false);
                case 1 -> w.drawers.get(r[1]).sheet.clear();
                case 2 -> w.drawers.get(r[1]).done = false;
                default -> w.marks[r[1]] = 0;
            }
        }
        return what == 0 ? w.drawnBits() : w.drewAll();
    }

    int book(int cell, int mark) {
        if (cell == -1) {
            now.book.clear();
            return 0;
        }
        if (!in(cell, 0, 15)) {
            return NONE;
        }
        return in(mark, 0, 7) ? added(now.book, 8, cell, mark) : BAD;
    }

    int looked() {
        for (int i = 0; i < now.book.size(); i++) {
            if (now.marks[now.book.get(i)[0]] != now.book.get(i)[1]) {
                return i;
            }
        }
        return NEVER;
    }

    int judge(int tape, int i) {
        if (!in(tape, 0, 5)) {
            return NONE;
        }
        if (tapes[tape] == null) {
            return 100;
        }
        if (!(tapes[tape] instanceof byte[])) {
            return -12;
        }
        byte[] bytes = (byte[]) tapes[tape];
        for (int c = 0; c < 16; c++) {
            long place = (long) i + c;
            if (i < 0 || place >= bytes.length) {
                return 100 + c;
            }
            if (bytes[(int) place] != now.marks[c]) {
                return c;
            }
        }
        return NEVER;
    }

    int image() {
        image = now.copy();
        return now.drawers.size();
    }

    int undo() {
        if (image == null) {
            return STATE;
        }
        now = image.copy();
        return now.drawers.size();
    }

    int act(int drawer, int act, int x) {
        ran.clear();
        Drawer d = at(drawer);
        if (d == null || !in(act, 0, 2)) {
            return 0;
        }
        d.ran = ran;
        return act == 0 ? d.weeps(x) : act == 1 ? d.draws(x) : d.tells(x);
    }

    int trace(int i) {
        return in(i, 0, Math.min(20, ran.size()) - 1) ? ran.get(i) : NONE;
    }

    int taken(int drawer, int k) {
        if (!in(k, 0, 6)) {
            return BAD;
        }
        if (at(drawer) == null) {
            return -11;
        }
        return CLASSES[k].isInstance(at(drawer)) ? at(drawer).kind : -12;
    }

    int count(int what) {
        return switch (what) {
            case 0 -> now.drawers.size();
            case 1 -> offices.size();
            case 2 -> now.seen.size();
            case 3 -> now.plan.size();
            case 4 -> now.book.size();
            case 5 -> text.length();
            case 6 -> ran.size();
            default -> BAD;
        };
    }

    int tape(int tape, int sort, int n) {
        if (!in(tape, 0, 5)) {
            return NONE;
        }
        if (sort == -1) {
            tapes[tape] = null;
            return 1;
        }
        if (!in(sort, 0, 4) || n > 60) {
            return BAD;
        }
        if (n < 0) {
            return -14;
        }
        tapes[tape] = switch (sort) {
            case 0 -> new byte[n];
            case 1 -> new short[n];
            case 2 -> new int[n];
            case 3 -> new long[n];
            default -> new boolean[n];
        };
        return 1;
    }

    int item(int tape, int i, long v) {
        if (!in(tape, 0, 5)) {
            return NONE;
        }
        Object t = tapes[tape];
        if (t == null) {
            return -11;
        }
        if (!in(i, 0, java.lang.reflect.Array.getLength(t) - 1)) {
            return -13;
        }
        if (t instanceof byte[] a) {
            a[i] = (byte) v;
        } else if (t instanceof short[] a) {
            a[i] = (short) v;
        } else if (t instanceof int[] a) {
            a[i] = (int) v;
        } else if (t instanceof long[] a) {
            a[i] = v;
        } else {
            ((boolean[]) t)[i] = v != 0;
        }
        return 1;
    }

    long read(int tape, int i) {
        if (!in(tape, 0, 5) || tapes[tape] == null
                || !in(i, 0, java.lang.reflect.Array.getLength(tapes[tape]) - 1)) {
            return NO;
        }
        Object got = java.lang.reflect.Array.get(tapes[tape], i);
        return got instanceof Boolean b ? b ? 1 : 0 : ((Number) got).longValue();
    }

    int shift(int tape, int i, int other, int j, int n) {
        if (!in(tape, 0, 5) || !in(other, 0, 5)) {
            return NONE;
        }
        if (tapes[tape] == null || tapes[other] == null) {
            return -11;
        }
        try {
            System.arraycopy(tapes[tape], i, tapes[other], j, n);
        } catch (ArrayStoreException e) {
            return -12;
        } catch (IndexOutOfBoundsException e) {
            return -13;
        }
        return n;
    }
}
