/**
 * A map drawn by those who were lost: sixteen cells with marks, drawers who go by an office's text and draw
 * what they see on their sheets, and what can be asked of all that. ../shared/DOC.md tells each call.
 *
 * Everything is made in the constructor and used again: no call makes an object.
 */
public final class LostSheets {
    public static final int NONE = -1, BAD = -2, STATE = -3, FULL = -4;
    public static final long NO = Long.MIN_VALUE;

    /** Stands for NONE where an answer may be below 0. */
    private static final int NONE_BELOW = -10001;
    private static final int NEVER = -5;
    private static final int NOTHING = -11, CAST = -12, PLACE = -13, SIZE = -14;
    /** An office's fault is told as this less its place; a judged row that ends too early as this and how many. */
    private static final int FAULTY = -10, ENDED = 100;

    private static final int CELLS = 16, ALL_CELLS = 65535, MARKS = 8, WAYS = 4;
    private static final int DRAWERS = 6, SHEET_ROWS = 8, ROW_PARTS = 4, DIGIT = 9, DREW_MOST = 9999;
    private static final int KINDS = 7;
    private static final int KIND_CLERK = 1, KIND_CHILD = 2, KIND_LOVER = 3;
    private static final int KIND_GENERAL = 4, KIND_SHEPHERD = 5, KIND_TOLD = 6;
    /** The kind above each kind; -1 above the first. */
    private static final int[] ABOVE = {-1, 0, 0, 0, 1, 2, 3};
    private static final int HOUR_MOST = 9999, HOURS_ASKED = 60, HOURS_BEST = 12, HOURS_SEEN = 12, HOURS_ODDS = 20;
    private static final int KNOW_WITHOUT = 3;
    private static final int OFFICES = 6, TEXT_MOST = 100, SIGN_MOST = 127;
    private static final int SEEN_MOST = 5, PLAN_MOST = 10, BOOK_MOST = 8;
    private static final int PLAN_HOUR = 0, PLAN_ANEW = 1, PLAN_NOT_DONE = 2, PLAN_BLANK = 3;
    private static final int TAPES = 6, TAPE_MOST = 60;
    private static final int SORTS = 5, NO_SORT = -1;
    private static final int BYTES = 0, SHORTS = 1, INTS = 2, LONGS = 3;
    private static final int WEEPS = 0, DRAWS = 1, TELLS = 2, ACTS = 3;

    private final Land now = new Land();
    private final Land imageLand = new Land();
    /** What is asked is tried here, so that nothing asked changes what is. */
    private final Land trial = new Land();
    private final ByHand byHand = new ByHand();
    private final ByHand imageByHand = new ByHand();
    private boolean imageTaken = false;
    private final Text text = new Text();
    private final Office[] offices = new Office[OFFICES];
    private int officeCount = 0;
    private final Trace bodies = new Trace();
    private final Tape[] tapes = new Tape[TAPES];

    public LostSheets() {
        for (int i = 0; i < OFFICES; i++) {
            offices[i] = new Office();
        }
        for (int i = 0; i < TAPES; i++) {
            tapes[i] = new Tape();
        }
    }

    // ---- drawers, marks, offices

    public int drawer(int kind, int v, int cell) {
        if (kind < 0 || kind >= KINDS || !isCell(cell)) {
            return NONE;
        }
        if (!isDigit(v)) {
            return BAD;
        }
        return now.addDrawer(kind, v, cell) ? now.drawerCount - 1 : FULL;
    }

    public int of(int drawer, int what) {
        Drawer d = now.drawerAt(drawer);
        if (d == null) {
            return NONE_BELOW;
        }
        switch (what) {
            case 0: return d.kind;
            case 1: return d.v;
            case 2: return d.at;
            case 3: return d.rows;
            case 4: return d.done ? 1 : 0;
            case 5: return d.drew;
            case 6: return now.feelOf(d);
            case 7: return now.wayOf(d);
            case 8: return now.cameOf(d);
            case 9: return now.hereOf(d);
            case 10: return now.lookOf(d);
            case 11: return placesOf(d);
            default: return NONE_BELOW;
        }
    }

    public int sheet(int drawer, int i) {
        Drawer d = now.drawerAt(drawer);
        if (d == null || i < 0 || i >= d.rows || i >= SHEET_ROWS) {
            return NONE;
        }
        return 10 * d.sheetWays[i] + d.sheetMarks[i];
    }

    public int put(int drawer, int cell) {
        Drawer d = now.drawerAt(drawer);
        if (d == null || !isCell(cell)) {
            return NONE;
        }
        int was = d.at;
        d.at = cell;
        return was;
    }

    public int anew(int drawer) {
        Drawer d = now.drawerAt(drawer);
        if (d == null) {
            return NONE;
        }
        int had = d.rows;
        d.rows = 0;
        d.done = false;
        return had;
    }

    public int mark(int cell, int n) {
        if (!isCell(cell)) {
            return NONE;
        }
        if (!isMark(n)) {
            return BAD;
        }
        int was = now.markAt(cell);
        now.setMark(cell, n);
        return was;
    }

    public int row(int drawer, int part, int n) {
        Drawer d = now.drawerAt(drawer);
        if (d == null || part < 0 || part >= ROW_PARTS) {
            return NONE;
        }
        if (!isDigit(n)) {
            return BAD;
        }
        if (d.kind != KIND_TOLD) {
            return STATE;
        }
        int was = d.toldRow[part];
        d.toldRow[part] = n;
        return was;
    }

    public int feed(int sign) {
        if (sign < 0 || sign > SIGN_MOST) {
            return BAD;
        }
        return text.append(sign) ? text.size : FULL;
    }

    public int office() {
        if (officeCount < 0 || officeCount >= OFFICES) {
            return FULL;
        }
        Office next = offices[officeCount];
        int fault = text.readInto(next);
        text.size = 0;
        if (fault >= 0) {
            return FAULTY - fault;
        }
        now.office = next;
        officeCount++;
        return officeCount - 1;
    }

    public int told(int what) {
        if (what >= 10 && what < 10 + CELLS) {
            return now.markAt(what - 10);
        }
        if (what >= 30 && what < 30 + CELLS) {
            return marksOf(what - 30);
        }
        switch (what) {
            case 0: return now.hour;
            case 1: return now.know();
            case 2: return now.drawn;
            case 3: return now.doneBits();
            case 4: return whole();
            default: return NONE;
        }
    }

    // ---- hours

    public int pass(int n) {
        if (n < 0 || n > HOURS_ASKED) {
            return BAD;
        }
        if (now.hour + n > HOUR_MOST) {
            return STATE;
        }
        now.hoursGo(n);
        now.capDrew();
        return now.hour;
    }

    public int on(int n, int what) {
        if (what != 0 && what != 1 && drawerBehindTen(what) == null) {
            return NONE;
        }
        if (n < 0 || n > HOURS_ASKED) {
            return BAD;
        }
        trial.copyFrom(now);
        trial.hoursGo(n);
        if (what == 0) {
            return trial.drawn;
        }
        if (what == 1) {
            return trial.doneBits();
        }
        return trial.whereIs(what - 10);
    }

    public int best(int n, int what) {
        if (what != 0 && drawerBehindTen(what) == null) {
            return NONE;
        }
        if (n < 1 || n > HOURS_BEST) {
            return BAD;
        }
        return what == 0 ? crew(n) : landing(what - 10, n);
    }

    // ---- seen, odds

    public int see(int drawer, int n, int mark) {
        if (drawer == -1) {
            byHand.seen.clear();
            return 0;
        }
        if (now.drawerAt(drawer) == null) {
            return NONE;
        }
        if (n < 0 || n > HOURS_SEEN || !isMark(mark)) {
            return BAD;
        }
        return byHand.seen.append(drawer, n, mark) ? byHand.seen.size : FULL;
    }

    public int can(int drawer, int what) {
        if (now.drawerAt(drawer) == null || (what != 0 && what != 1)) {
            return NONE;
        }
        int possible = possibleNumbers(drawer);
        if (what == 0) {
            return Integer.bitCount(possible);
        }
        return leastOf(possible);
    }

    public long odds(int drawer, int n, int part) {
        if (now.drawerAt(drawer) == null || n < 0 || n > HOURS_ODDS || (part != 0 && part != 1)) {
            return NO;
        }
        int done = 0;
        for (int cell = 0; cell < CELLS; cell++) {
            tryAt(drawer, cell);
            trial.hoursGo(n);
            done += (trial.doneBits() >> drawer) & 1;
        }
        return partOfFraction(done, CELLS, part);
    }

    public long mean(int n, int part) {
        if (now.drawerCount <= 0 || n < 0 || n > HOURS_ASKED || (part != 0 && part != 1)) {
            return NO;
        }
        trial.copyFrom(now);
        trial.hoursGo(n);
        return partOfFraction(trial.drewOfAll(), now.drawerCount, part);
    }

    // ---- plans, books

    public int plan(int what, int n) {
        if (what == -1) {
            byHand.planned.clear();
            return 0;
        }
        if (!isPlanRow(what, n)) {
            return NONE;
        }
        return byHand.planned.append(what, n, 0) ? byHand.planned.size : FULL;
    }

    public int ends(int what) {
        if (what != 0 && what != 1) {
            return NONE;
        }
        tryPlan();
        return what == 0 ? trial.drawn : trial.drewOfAll();
    }

    public int book(int cell, int mark) {
        if (cell == -1) {
            byHand.booked.clear();
            return 0;
        }
        if (!isCell(cell)) {
            return NONE;
        }
        if (!isMark(mark)) {
            return BAD;
        }
        return byHand.booked.append(cell, mark, 0) ? byHand.booked.size : FULL;
    }

    public int looked() {
        Rows booked = byHand.booked;
        for (int i = 0; i < booked.size && i < booked.most; i++) {
            if (now.markAt(booked.first[i]) != booked.second[i]) {
                return i;
            }
        }
        return NEVER;
    }

    // ---- judging, the image, acts, tapes

    public int judge(int tape, int i) {
        Tape t = tapeAt(tape);
        if (t == null) {
            return NONE;
        }
        if (t.sort != NO_SORT && t.sort != BYTES) {
            return CAST;
        }
        if (i < 0 || i >= t.length) {
            return ENDED;
        }
        for (int cell = 0; cell < CELLS; cell++) {
            int place = i + cell;
            if (!t.has(place)) {
                return ENDED + cell;
            }
            if (t.items[place] != now.markAt(cell)) {
                return cell;
            }
        }
        return NEVER;
    }

    public int image() {
        imageLand.copyFrom(now);
        imageByHand.copyFrom(byHand);
        imageTaken = true;
        return now.drawerCount;
    }

    public int undo() {
        if (!imageTaken) {
            return STATE;
        }
        now.copyFrom(imageLand);
        byHand.copyFrom(imageByHand);
        return now.drawerCount;
    }

    public int act(int drawer, int act, int x) {
        return bodies.ofAct(now.drawerAt(drawer), act, x);
    }

    public int trace(int i) {
        if (i < 0 || i >= bodies.ran || i >= Trace.KEPT) {
            return NONE;
        }
        return bodies.kept[i];
    }

    public int taken(int drawer, int k) {
        if (k < 0 || k >= KINDS) {
            return BAD;
        }
        Drawer d = now.drawerAt(drawer);
        if (d == null) {
            return NOTHING;
        }
        return isUnder(d.kind, k) ? d.kind : CAST;
    }

    public int count(int what) {
        switch (what) {
            case 0: return now.drawerCount;
            case 1: return officeCount;
            case 2: return byHand.seen.size;
            case 3: return byHand.planned.size;
            case 4: return byHand.booked.size;
            case 5: return text.size;
            case 6: return bodies.ran;
            default: return BAD;
        }
    }

    public int tape(int tape, int sort, int n) {
        Tape t = tapeAt(tape);
        if (t == null) {
            return NONE;
        }
        if (sort == NO_SORT) {
            t.becomes(NO_SORT, 0);
            return 1;
        }
        if (sort < 0 || sort >= SORTS || n > TAPE_MOST) {
            return BAD;
        }
        if (n < 0) {
            return SIZE;
        }
        t.becomes(sort, n);
        return 1;
    }

    public int item(int tape, int i, long v) {
        Tape t = tapeAt(tape);
        if (t == null) {
            return NONE;
        }
        if (t.sort == NO_SORT) {
            return NOTHING;
        }
        if (!t.has(i)) {
            return PLACE;
        }
        t.items[i] = t.asItem(v);
        return 1;
    }

    public long read(int tape, int i) {
        Tape t = tapeAt(tape);
        if (t == null || t.sort == NO_SORT || !t.has(i)) {
            return NO;
        }
        return t.items[i];
    }

    public int shift(int tape, int i, int other, int j, int n) {
        Tape from = tapeAt(tape);
        Tape to = tapeAt(other);
        if (from == null || to == null) {
            return NONE;
        }
        if (from.sort == NO_SORT || to.sort == NO_SORT) {
            return NOTHING;
        }
        if (from.sort != to.sort) {
            return CAST;
        }
        if (!from.hasRun(i, n) || !to.hasRun(j, n)) {
            return PLACE;
        }
        System.arraycopy(from.items, i, to.items, j, n);
        return n;
    }

    // ---- what numbers are allowed

    private static boolean isCell(int cell) {
        return cell >= 0 && cell < CELLS;
    }

    private static boolean isMark(int mark) {
        return mark >= 0 && mark < MARKS;
    }

    private static boolean isDigit(int n) {
        return n >= 0 && n <= DIGIT;
    }

    private boolean isPlanRow(int what, int n) {
        switch (what) {
            case PLAN_HOUR: return true;
            case PLAN_ANEW:
            case PLAN_NOT_DONE: return now.drawerAt(n) != null;
            case PLAN_BLANK: return isCell(n);
            default: return false;
        }
    }

    /** The drawer that is meant by 10 and its number. */
    private Drawer drawerBehindTen(int what) {
        return what >= 10 ? now.drawerAt(what - 10) : null;
    }

    private Tape tapeAt(int i) {
        return i >= 0 && i < TAPES ? tapes[i] : null;
    }

    private static int aboveOf(int kind) {
        return kind >= 0 && kind < KINDS ? ABOVE[kind] : -1;
    }

    private static boolean isUnder(int kind, int other) {
        int k = kind;
        for (int i = 0; i < KINDS && k >= 0; i++) {
            if (k == other) {
                return true;
            }
            k = aboveOf(k);
        }
        return false;
    }

    // ---- what is asked and tried

    private void tryAt(int drawer, int cell) {
        trial.copyFrom(now);
        trial.putAt(drawer, cell);
    }

    private int whole() {
        trial.copyFrom(now);
        for (int hours = 0; hours <= HOURS_ASKED; hours++) {
            if (trial.drawn == ALL_CELLS) {
                return hours;
            }
            trial.hoursGo(1);
        }
        return NEVER;
    }

    private int landing(int drawer, int n) {
        int best = 0;
        int most = -1;
        for (int cell = 0; cell < CELLS; cell++) {
            tryAt(drawer, cell);
            trial.hoursGo(n);
            int drawn = Integer.bitCount(trial.drawn);
            if (drawn > most) {
                most = drawn;
                best = cell;
            }
        }
        return best;
    }

    private int crew(int n) {
        trial.copyFrom(now);
        trial.hoursGo(n);
        int asItIs = Integer.bitCount(trial.drawn);
        int best = NEVER;
        int fewest = DRAWERS + 1;
        for (int set = 0; set < 1 << now.drawerCount; set++) {
            int size = Integer.bitCount(set);
            if (size < fewest) {
                trial.copyFrom(now);
                trial.othersAreDone(set);
                trial.hoursGo(n);
                if (Integer.bitCount(trial.drawn) >= asItIs) {
                    fewest = size;
                    best = set;
                }
            }
        }
        return best;
    }

    private int marksOf(int cell) {
        int bits = 0;
        for (int mark = 0; mark < MARKS; mark++) {
            trial.copyFrom(now);
            trial.setMark(cell, mark);
            if (seenIsSo()) {
                bits |= 1 << mark;
            }
        }
        return bits;
    }

    private int placesOf(Drawer d) {
        int bits = 0;
        for (int cell = 0; cell < CELLS; cell++) {
            tryAt(d.number, cell);
            if (seenIsSo()) {
                bits |= 1 << cell;
            }
        }
        return bits;
    }

    private int possibleNumbers(int drawer) {
        int bits = 0;
        for (int v = 0; v <= DIGIT; v++) {
            trial.copyFrom(now);
            trial.setNumber(drawer, v);
            if (seenIsSo()) {
                bits |= 1 << v;
            }
        }
        return bits;
    }

    private static int leastOf(int bits) {
        for (int v = 0; v <= DIGIT; v++) {
            if ((bits >> v & 1) == 1) {
                return v;
            }
        }
        return NEVER;
    }

    /** Whether all of SEEN is so, going on from how the trial is. */
    private boolean seenIsSo() {
        int last = byHand.lastHourSeen();
        for (int hours = 0; hours <= last && hours <= HOURS_SEEN; hours++) {
            if (!seenIsSoIn(hours)) {
                return false;
            }
            trial.hoursGo(1);
        }
        return true;
    }

    private boolean seenIsSoIn(int hours) {
        Rows seen = byHand.seen;
        for (int i = 0; i < seen.size && i < seen.most; i++) {
            if (seen.second[i] == hours && trial.markAt(trial.whereIs(seen.first[i])) != seen.third[i]) {
                return false;
            }
        }
        return true;
    }

    private void tryPlan() {
        trial.copyFrom(now);
        Rows planned = byHand.planned;
        for (int i = 0; i < planned.size && i < planned.most; i++) {
            int n = planned.second[i];
            switch (planned.first[i]) {
                case PLAN_HOUR: trial.hoursGo(1); break;
                case PLAN_ANEW: trial.emptySheet(n); break;
                case PLAN_NOT_DONE: trial.notDone(n); break;
                case PLAN_BLANK: trial.setMark(n, 0); break;
                default: break;
            }
        }
    }

    private static long partOfFraction(long above, long below, int part) {
        long divisor = greatestDivisor(above, below);
        if (divisor <= 0) {
            return NO;
        }
        return part == 0 ? above / divisor : below / divisor;
    }

    private static long greatestDivisor(long one, long other) {
        long a = one;
        long b = other;
        // Each pair of steps halves what is left at least: 200 are more than any two longs need.
        for (int i = 0; i < 200 && b != 0; i++) {
            long rest = a % b;
            a = b;
            b = rest;
        }
        return a;
    }

    // ---- the parts

    private static final class Drawer {
        final int number;
        int kind = 0;
        int v = 0;
        int at = 0;
        int rows = 0;
        int drew = 0;
        boolean done = false;
        final int[] sheetWays = new int[SHEET_ROWS];
        final int[] sheetMarks = new int[SHEET_ROWS];
        final int[] toldRow = new int[ROW_PARTS];

        Drawer(int number) {
            this.number = number;
        }

        /** An undo may have taken one away whose place this is, so everything is set. */
        void begins(int newKind, int newV, int cell) {
            kind = newKind;
            v = newV;
            at = cell;
            rows = 0;
            drew = 0;
            done = false;
            for (int i = 0; i < ROW_PARTS; i++) {
                toldRow[i] = 0;
            }
        }

        void copyFrom(Drawer d) {
            kind = d.kind;
            v = d.v;
            at = d.at;
            rows = d.rows;
            drew = d.drew;
            done = d.done;
            System.arraycopy(d.sheetWays, 0, sheetWays, 0, SHEET_ROWS);
            System.arraycopy(d.sheetMarks, 0, sheetMarks, 0, SHEET_ROWS);
            System.arraycopy(d.toldRow, 0, toldRow, 0, ROW_PARTS);
        }

        boolean goes() {
            return !done && rows < SHEET_ROWS;
        }

        void writes(int way, int mark) {
            if (rows >= 0 && rows < SHEET_ROWS) {
                sheetWays[rows] = way;
                sheetMarks[rows] = mark;
                rows++;
                drew++;
            }
        }

        int rowsWith(int mark) {
            int found = 0;
            for (int i = 0; i < rows && i < SHEET_ROWS; i++) {
                if (sheetMarks[i] == mark) {
                    found++;
                }
            }
            return found;
        }
    }

    /** The cells, the drawers, the hour and the office that holds. */
    private static final class Land {
        final int[] marks = new int[CELLS];
        int drawn = 0;
        int hour = 0;
        Office office = null;
        final Drawer[] drawers = new Drawer[DRAWERS];
        int drawerCount = 0;
        /** The ways that all go in one hour, found ahead of the first step; -1 for one who does not go. */
        private final int[] waysAhead = new int[DRAWERS];
        private final int[] answers = new int[Office.LETTERS];
        private final int[] atMark = new int[MARKS];

        Land() {
            for (int cell = 0; cell < CELLS; cell++) {
                marks[cell] = cell % MARKS;
            }
            for (int i = 0; i < DRAWERS; i++) {
                drawers[i] = new Drawer(i);
            }
        }

        void copyFrom(Land other) {
            System.arraycopy(other.marks, 0, marks, 0, CELLS);
            drawn = other.drawn;
            hour = other.hour;
            office = other.office;
            drawerCount = other.drawerCount;
            for (int i = 0; i < drawerCount && i < DRAWERS; i++) {
                drawers[i].copyFrom(other.drawers[i]);
            }
        }

        Drawer drawerAt(int i) {
            return i >= 0 && i < drawerCount && i < DRAWERS ? drawers[i] : null;
        }

        boolean addDrawer(int kind, int v, int cell) {
            if (drawerCount < 0 || drawerCount >= DRAWERS) {
                return false;
            }
            drawers[drawerCount].begins(kind, v, cell);
            drawerCount++;
            return true;
        }

        int markAt(int cell) {
            return cell >= 0 && cell < CELLS ? marks[cell] : 0;
        }

        void setMark(int cell, int mark) {
            if (isCell(cell) && isMark(mark)) {
                marks[cell] = mark;
            }
        }

        int whereIs(int drawer) {
            Drawer d = drawerAt(drawer);
            return d == null ? -1 : d.at;
        }

        void putAt(int drawer, int cell) {
            Drawer d = drawerAt(drawer);
            if (d != null && isCell(cell)) {
                d.at = cell;
            }
        }

        void setNumber(int drawer, int v) {
            Drawer d = drawerAt(drawer);
            if (d != null) {
                d.v = v;
            }
        }

        void emptySheet(int drawer) {
            Drawer d = drawerAt(drawer);
            if (d != null) {
                d.rows = 0;
            }
        }

        void notDone(int drawer) {
            Drawer d = drawerAt(drawer);
            if (d != null) {
                d.done = false;
            }
        }

        void othersAreDone(int set) {
            for (int i = 0; i < drawerCount && i < DRAWERS; i++) {
                if ((set >> i & 1) == 0) {
                    drawers[i].done = true;
                }
            }
        }

        int doneBits() {
            int bits = 0;
            for (int i = 0; i < drawerCount && i < DRAWERS; i++) {
                if (drawers[i].done) {
                    bits |= 1 << i;
                }
            }
            return bits;
        }

        int drewOfAll() {
            int sum = 0;
            for (int i = 0; i < drawerCount && i < DRAWERS; i++) {
                sum += drawers[i].drew;
            }
            return sum;
        }

        /** Only hours that pass are bounded so: what is asked goes on beyond. */
        void capDrew() {
            for (int i = 0; i < drawerCount && i < DRAWERS; i++) {
                drawers[i].drew = Math.min(drawers[i].drew, DREW_MOST);
            }
        }

        int know() {
            return office == null ? KNOW_WITHOUT : office.know;
        }

        /** What an office's tests ask of one, in the order of its letters. */
        private int[] answersOf(Drawer d) {
            answers[0] = d.number;
            answers[1] = d.kind;
            answers[2] = d.v;
            answers[3] = markAt(d.at);
            answers[4] = d.rows;
            answers[5] = hour % 10;
            return answers;
        }

        private int othersWith(Drawer d) {
            int others = 0;
            for (int i = 0; i < drawerCount && i < DRAWERS; i++) {
                if (i != d.number && drawers[i].at == d.at) {
                    others++;
                }
            }
            return others;
        }

        int feelOf(Drawer d) {
            int turned = office == null ? 0 : office.turnsBy(answersOf(d));
            int sum = d.v + hour % 10 + turned;
            switch (d.kind) {
                case KIND_CLERK: return sum + d.v;
                case KIND_CHILD: return sum / 2;
                case KIND_LOVER: return sum + othersWith(d);
                case KIND_GENERAL: return d.rows == 0 ? 2 * (sum + d.v) + 1 : sum + d.v;
                case KIND_SHEPHERD: return sum / 2 + markAt(d.at);
                case KIND_TOLD: return sum + othersWith(d) + d.toldRow[Math.floorMod(hour, ROW_PARTS)];
                default: return sum;
            }
        }

        int wayOf(Drawer d) {
            return Math.floorMod(feelOf(d), WAYS);
        }

        /** All ways are found ahead of the first step: an hour goes by how all is ahead of it. */
        void hourGoes() {
            for (int i = 0; i < drawerCount && i < DRAWERS; i++) {
                waysAhead[i] = drawers[i].goes() ? Math.floorMod(feelOf(drawers[i]), WAYS) : -1;
            }
            int know = know();
            for (int i = 0; i < drawerCount && i < DRAWERS; i++) {
                if (waysAhead[i] >= 0) {
                    stepsAndDraws(drawers[i], waysAhead[i], know);
                }
            }
            hour++;
        }

        private void stepsAndDraws(Drawer d, int way, int know) {
            d.at = stepFrom(d.at, way);
            int mark = markAt(d.at);
            d.writes(way, mark);
            drawn |= 1 << d.at;
            if (d.rowsWith(mark) >= know) {
                d.done = true;
            }
        }

        void hoursGo(int n) {
            for (int gone = 0; gone < n; gone++) {
                if (!anyGoes()) {
                    // Nothing but the hour changes any more: nobody begins again by himself.
                    hour += n - gone;
                    return;
                }
                hourGoes();
            }
        }

        private boolean anyGoes() {
            for (int i = 0; i < drawerCount && i < DRAWERS; i++) {
                if (drawers[i].goes()) {
                    return true;
                }
            }
            return false;
        }

        static int stepFrom(int cell, int way) {
            int line = cell / 4;
            int column = cell % 4;
            switch (way) {
                case 0: return line > 0 ? cell - 4 : cell;
                case 1: return column > 0 ? cell - 1 : cell;
                case 2: return column < 3 ? cell + 1 : cell;
                case 3: return line < 3 ? cell + 4 : cell;
                default: return cell;
            }
        }

        /** Where one who went from a cell by a sheet is; -1 if it would have drawn otherwise. */
        private int endBySheet(Drawer d, int from) {
            int cell = from;
            for (int i = 0; i < d.rows && i < SHEET_ROWS; i++) {
                cell = stepFrom(cell, d.sheetWays[i]);
                if (markAt(cell) != d.sheetMarks[i]) {
                    return -1;
                }
            }
            return cell;
        }

        int cameOf(Drawer d) {
            int bits = 0;
            for (int from = 0; from < CELLS; from++) {
                if (endBySheet(d, from) >= 0) {
                    bits |= 1 << from;
                }
            }
            return bits;
        }

        int hereOf(Drawer d) {
            int bits = 0;
            for (int from = 0; from < CELLS; from++) {
                int end = endBySheet(d, from);
                if (end >= 0) {
                    bits |= 1 << end;
                }
            }
            return bits;
        }

        int lookOf(Drawer d) {
            int here = hereOf(d);
            if (here == 0) {
                return NEVER;
            }
            int best = 0;
            int least = CELLS + 1;
            for (int way = 0; way < WAYS; way++) {
                int greatest = mostAtOneMark(here, way);
                if (greatest < least) {
                    least = greatest;
                    best = way;
                }
            }
            return best;
        }

        private int mostAtOneMark(int cells, int way) {
            for (int mark = 0; mark < MARKS; mark++) {
                atMark[mark] = 0;
            }
            int most = 0;
            for (int cell = 0; cell < CELLS; cell++) {
                int mark = markAt(stepFrom(cell, way));
                if ((cells >> cell & 1) == 1 && isMark(mark)) {
                    atMark[mark]++;
                    most = Math.max(most, atMark[mark]);
                }
            }
            return most;
        }
    }

    /** Up to so many rows of three numbers, as they were told by hand. */
    private static final class Rows {
        final int most;
        final int[] first;
        final int[] second;
        final int[] third;
        int size = 0;

        Rows(int most) {
            this.most = Math.max(most, 0);
            first = new int[this.most];
            second = new int[this.most];
            third = new int[this.most];
        }

        void clear() {
            size = 0;
        }

        boolean append(int a, int b, int c) {
            if (size < 0 || size >= most) {
                return false;
            }
            first[size] = a;
            second[size] = b;
            third[size] = c;
            size++;
            return true;
        }

        void copyFrom(Rows other) {
            size = 0;
            for (int i = 0; i < other.size && i < other.most; i++) {
                append(other.first[i], other.second[i], other.third[i]);
            }
        }
    }

    /** SEEN (drawer, hours, mark), the PLAN (what, n) and the BOOK (cell, mark). */
    private static final class ByHand {
        final Rows seen = new Rows(SEEN_MOST);
        final Rows planned = new Rows(PLAN_MOST);
        final Rows booked = new Rows(BOOK_MOST);

        void copyFrom(ByHand other) {
            seen.copyFrom(other.seen);
            planned.copyFrom(other.planned);
            booked.copyFrom(other.booked);
        }

        /** -1 if nothing is seen. */
        int lastHourSeen() {
            int last = -1;
            for (int i = 0; i < seen.size && i < seen.most; i++) {
                last = Math.max(last, seen.second[i]);
            }
            return last;
        }
    }

    /**
     * An office as steps over a row of truths, the newest in the lowest bit: a test puts one truth there, NOT,
     * AND and OR change those that are there, TURN and BACK take the last one away. E nests 4 deep at most, so
     * some ten bits are enough.
     */
    private static final class Office {
        static final int LETTERS = 6;
        /** A test's step is 3 times its letter's place in p k v m s h, and its sign's in < = >. */
        static final int NOT = 18, AND = 19, OR = 20, TURN = 21, BACK = 22;
        int know = KNOW_WITHOUT;
        private final int[] steps = new int[TEXT_MOST];
        private final int[] numbers = new int[TEXT_MOST];
        private int size = 0;

        void clear() {
            size = 0;
            know = KNOW_WITHOUT;
        }

        /** Each step comes from a sign of its own, so there is room for all of a text. */
        void append(int step, int number) {
            if (size >= 0 && size < TEXT_MOST) {
                steps[size] = step;
                numbers[size] = number;
                size++;
            }
        }

        int turnsBy(int[] answers) {
            int sum = 0;
            int truths = 0;
            for (int i = 0; i < size && i < TEXT_MOST; i++) {
                int step = steps[i];
                int top = truths & 1;
                switch (step) {
                    case NOT: truths ^= 1; break;
                    case AND: truths = (truths >> 1) & (top - 2); break;
                    case OR: truths = (truths >> 1) | top; break;
                    case TURN: sum += top * numbers[i]; truths >>= 1; break;
                    case BACK: sum -= top * numbers[i]; truths >>= 1; break;
                    default: truths = truths << 1 | holds(answers, step, numbers[i]); break;
                }
            }
            return sum;
        }

        private static int holds(int[] answers, int test, int number) {
            int letter = test / 3;
            if (letter < 0 || letter >= LETTERS || letter >= answers.length) {
                return 0;
            }
            int value = answers[letter];
            int sign = value < number ? 0 : value == number ? 1 : 2;
            return test % 3 == sign ? 1 : 0;
        }
    }

    /** THE TEXT, and how it is read: each function takes what it names, or stops at the first sign that can't be. */
    private static final class Text {
        private static final int CLAUSES = 10, NESTED = 4;
        private static final int END = -1;
        private final byte[] signs = new byte[TEXT_MOST];
        int size = 0;
        private int place = 0;
        private int number = 0;
        private Office into = null;

        boolean append(int sign) {
            if (size < 0 || size >= TEXT_MOST) {
                return false;
            }
            signs[size] = (byte) sign;
            size++;
            return true;
        }

        /** The FAULT, or -1 if the text is an office. */
        int readInto(Office office) {
            into = office;
            into.clear();
            place = 0;
            boolean good = clause();
            for (int clauses = 1; clauses < CLAUSES && good && place < size; clauses++) {
                good = takes(';') && clause();
            }
            return good && place == size ? -1 : place;
        }

        private int ahead() {
            return place >= 0 && place < size && place < TEXT_MOST ? signs[place] : END;
        }

        private boolean takes(int sign) {
            if (ahead() != sign) {
                return false;
            }
            place++;
            return true;
        }

        private boolean takesAll(String word) {
            for (int i = 0; i < word.length(); i++) {
                if (!takes(word.charAt(i))) {
                    return false;
                }
            }
            return true;
        }

        private boolean oneOrTwoDigits() {
            number = 0;
            int digits = 0;
            for (int sign = ahead(); digits < 2 && sign >= '0' && sign <= '9'; sign = ahead()) {
                number = number * 10 + (sign - '0');
                digits++;
                place++;
            }
            return digits > 0;
        }

        private boolean clause() {
            int first = ahead();
            String word = first == 't' ? "turn " : first == 'b' ? "back " : "know ";
            if (!takesAll(word) || !oneOrTwoDigits()) {
                return false;
            }
            if (first == 'k') {
                into.know = number;
                return true;
            }
            int n = number;
            if (!takes(' ') || !anyOf(0)) {
                return false;
            }
            into.append(first == 't' ? Office.TURN : Office.BACK, n);
            return true;
        }

        /** E, within so many ( and !. */
        private boolean anyOf(int within) {
            boolean good = allOf(within);
            for (int i = 0; i < TEXT_MOST && good && takes('|'); i++) {
                good = allOf(within);
                into.append(Office.OR, 0);
            }
            return good;
        }

        /** T. */
        private boolean allOf(int within) {
            boolean good = one(within);
            for (int i = 0; i < TEXT_MOST && good && takes('&'); i++) {
                good = one(within);
                into.append(Office.AND, 0);
            }
            return good;
        }

        /** F. */
        private boolean one(int within) {
            int sign = ahead();
            if (sign != '!' && sign != '(') {
                return test();
            }
            if (within >= NESTED) {
                return false;
            }
            place++;
            return sign == '!' ? not(within + 1) : inBrackets(within + 1);
        }

        private boolean not(int within) {
            boolean good = one(within);
            into.append(Office.NOT, 0);
            return good;
        }

        private boolean inBrackets(int within) {
            return anyOf(within) && takes(')');
        }

        private boolean test() {
            int letter = placeIn("pkvmsh", ahead());
            if (letter < 0) {
                return false;
            }
            place++;
            int sign = placeIn("<=>", ahead());
            if (sign < 0) {
                return false;
            }
            place++;
            if (!oneOrTwoDigits()) {
                return false;
            }
            into.append(3 * letter + sign, number);
            return true;
        }

        /** -1 if it is not there. */
        private static int placeIn(String all, int sign) {
            for (int i = 0; i < all.length(); i++) {
                if (all.charAt(i) == sign) {
                    return i;
                }
            }
            return -1;
        }
    }

    /** Runs the bodies of acts, and keeps which ran. */
    private static final class Trace {
        static final int KEPT = 20;
        /** No act opens more bodies at once than this: each goes on to an act ahead of its own or a kind above. */
        private static final int DEEPEST = KINDS * ACTS;
        /** Of each kind what it weeps, draws and tells by; 0 where it has no body of its own. */
        private static final int[] BODIES = {
            10, 11, 12,
            0, 20, 0,
            30, 0, 0,
            0, 0, 40,
            50, 51, 0,
            0, 0, 60,
            71, 70, 0};
        final int[] kept = new int[KEPT];
        int ran = 0;

        private static int bodyOf(int kind, int act) {
            int k = kind;
            for (int i = 0; i < KINDS; i++) {
                int place = k * ACTS + act;
                if (k < 0 || place < 0 || place >= BODIES.length) {
                    return 0;
                }
                if (BODIES[place] != 0) {
                    return BODIES[place];
                }
                k = aboveOf(k);
            }
            return 0;
        }

        private void begins(int body) {
            if (ran >= 0 && ran < KEPT) {
                kept[ran] = body;
            }
            ran++;
        }

        int ofAct(Drawer d, int act, int x) {
            ran = 0;
            if (d == null || act < 0 || act >= ACTS) {
                return 0;
            }
            return run(d, d.kind, act, x, 0);
        }

        /** The act by the body that a kind has, or the next kind above that has one. */
        private int run(Drawer d, int kind, int act, int x, int depth) {
            int body = bodyOf(kind, act);
            if (body == 0 || depth > DEEPEST) {
                return 0;
            }
            begins(body);
            return does(body, d, x, depth + 1);
        }

        private int does(int body, Drawer d, int x, int next) {
            switch (body) {
                case 10: return x + d.number;
                case 11: return run(d, d.kind, WEEPS, x, next) - d.v;
                case 12: return run(d, d.kind, DRAWS, x, next) * 2;
                case 20: return run(d, aboveOf(KIND_CLERK), DRAWS, x, next) ^ 6;
                case 30: return run(d, aboveOf(KIND_CHILD), WEEPS, x * 3, next);
                case 40: return run(d, aboveOf(KIND_LOVER), TELLS, x, next) + run(d, d.kind, DRAWS, 1, next);
                case 50: return -run(d, aboveOf(KIND_GENERAL), WEEPS, x, next);
                case 51: return run(d, aboveOf(KIND_GENERAL), DRAWS, x + 1, next);
                case 60: return run(d, aboveOf(KIND_SHEPHERD), TELLS, x - d.number, next);
                case 70: return run(d, aboveOf(KIND_TOLD), DRAWS, x, next) + run(d, aboveOf(KIND_TOLD), WEEPS, 2, next);
                case 71: return run(d, aboveOf(KIND_TOLD), WEEPS, x, next) ^ d.v;
                default: return 0;
            }
        }
    }

    /** A row of one sort's items, or nothing; each item is held as the number it reads as. */
    private static final class Tape {
        int sort = NO_SORT;
        int length = 0;
        final long[] items = new long[TAPE_MOST];

        void becomes(int newSort, int n) {
            sort = newSort;
            length = n;
            for (int i = 0; i < TAPE_MOST; i++) {
                items[i] = 0;
            }
        }

        boolean has(int i) {
            return i >= 0 && i < length && i < TAPE_MOST;
        }

        boolean hasRun(int from, int n) {
            return n >= 0 && from >= 0 && (long) from + n <= length && length <= TAPE_MOST;
        }

        long asItem(long v) {
            switch (sort) {
                case BYTES: return (byte) v;
                case SHORTS: return (short) v;
                case INTS: return (int) v;
                case LONGS: return v;
                default: return v != 0 ? 1 : 0;
            }
        }
    }
}
