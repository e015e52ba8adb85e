/**
 * A sheet of cells with whole ranges and of relations between them that narrow the ranges from all
 * sides. It tells which entries a bound or a contradiction rests on, and searches for settings.
 */
public final class RangeSheet {

    /** There is none. */
    public static final int NONE = -1000;

    private static final int MOST_CELLS = 10;
    private static final int MOST_ENTRIES = 12;
    private static final int MOST_RELATIONS = 12;
    private static final int MOST_TABLES = 3;
    private static final int MOST_ROWS = 10;
    private static final int MOST_STEPS = 300;
    private static final int FARTHEST_VALUE = 100;
    private static final int FARTHEST_GAP = 200;

    /** Far above the rounds that ten ranges of 201 values can take until nothing changes. */
    private static final int ENOUGH_ROUNDS = 1000000;

    private static final int SUM = 0;
    private static final int PRODUCT = 1;
    private static final int QUOTIENT = 2;
    private static final int LESSER = 3;
    private static final int GREATER = 4;
    private static final int AT_MOST = 5;
    private static final int IF = 6;
    private static final int DIFFERENT = 7;
    private static final int TABLE = 8;

    /** Stands for a quotient whose dividend is c itself, where it is narrowed. */
    private static final int OWN_QUOTIENT = 9;

    /** Above every value of a cell, as its opposite is below every one. */
    private static final int BEYOND = FARTHEST_VALUE + 1;

    private static final int NOTHING = 0;
    private static final int FOUND = 1;

    private final Ranges first = new Ranges();
    private final Entry[] entries = new Entry[MOST_ENTRIES];
    private final Net net = new Net();
    private final Search search = new Search();
    private final Ranges latest = new Ranges();
    private final Ranges trial = new Ranges();
    private int cells;
    private int entryCount;
    private int latestCells;

    /** A sheet without cells, entries, relations or rows. */
    public RangeSheet() {
        for (int e = 0; e < MOST_ENTRIES; e++) {
            entries[e] = new Entry();
        }
    }

    /** Makes a cell with its first range: the cell's number. */
    public int cell(int low, int high) throws IllegalArgumentException, IllegalStateException {
        if (!isRange(low, high)) {
            throw new IllegalArgumentException("a range lies within -100 .. 100, its low not above its high");
        }
        if (cells >= MOST_CELLS) {
            throw new IllegalStateException("there are ten cells");
        }
        first.low[cells] = low;
        first.high[cells] = high;
        cells++;
        return cells - 1;
    }

    /** Makes a relation, which holds good: its number. */
    public int relate(int kind, int a, int b, int c) throws IllegalArgumentException, IllegalStateException {
        if (!isRelation(kind, a, b, c)) {
            throw new IllegalArgumentException("no such kind, cell or table, or a number out of its bounds");
        }
        if (net.count >= MOST_RELATIONS) {
            throw new IllegalStateException("there are twelve relations");
        }
        net.relations[net.count].become(kind, a, b, c);
        net.count++;
        return net.count - 1;
    }

    /** Lets a relation hold good or takes it away: whether that was otherwise before. */
    public boolean hold(int r, boolean good) {
        if (!net.has(r) || net.relations[r].good == good) {
            return false;
        }
        net.relations[r].good = good;
        return true;
    }

    /** Adds a row to a table: how many it has then, or 0 when nothing is done. */
    public int row(int t, int x, int y) {
        if (!isTable(t) || !isRange(x, x) || !isRange(y, y) || net.tables[t].rows >= MOST_ROWS) {
            return 0;
        }
        Table table = net.tables[t];
        table.x[table.rows] = x;
        table.y[table.rows] = y;
        table.rows++;
        return table.rows;
    }

    /** Makes an entry, which is in force: its number. */
    public int set(int cell, int low, int high) throws IllegalArgumentException, IllegalStateException {
        if (!isCell(cell) || !isRange(low, high)) {
            throw new IllegalArgumentException("no such cell, or no range within -100 .. 100");
        }
        if (entryCount >= MOST_ENTRIES) {
            throw new IllegalStateException("there are twelve entries");
        }
        Entry entry = entries[entryCount];
        entry.cell = cell;
        entry.low = low;
        entry.high = high;
        entry.inForce = true;
        entryCount++;
        return entryCount - 1;
    }

    /** Withdraws an entry or puts it in force again: whether that was otherwise before. */
    public boolean force(int e, boolean on) {
        if (e < 0 || e >= entryCount || entries[e].inForce == on) {
            return false;
        }
        entries[e].inForce = on;
        return true;
    }

    /** Narrows with all entries in force: whether there is no contradiction. */
    public boolean narrow() {
        layOut(entriesInForce(), latest);
        net.settle(latest);
        latestCells = latest.broken ? 0 : cells;
        return !latest.broken;
    }

    /** A cell's low in the latest narrowing, or NONE. */
    public int low(int cell) {
        return cell >= 0 && cell < latestCells ? latest.low[cell] : NONE;
    }

    /** A cell's high in the latest narrowing, or NONE. */
    public int high(int cell) {
        return cell >= 0 && cell < latestCells ? latest.high[cell] : NONE;
    }

    /** The entries, as bits, that a contradiction rests on; NONE when there is no contradiction. */
    public int conflict() {
        int all = entriesInForce();
        layOut(all, trial);
        net.settle(trial);
        // A contradiction leaves no bound to any cell, so that each of them can tell it.
        return trial.broken ? trim(all, 0, false, NONE) : NONE;
    }

    /** The entries, as bits, that a cell's bound rests on; NONE when there is a contradiction. */
    public int because(int cell, boolean high) throws IllegalArgumentException {
        if (!isCell(cell)) {
            throw new IllegalArgumentException("no such cell");
        }
        int all = entriesInForce();
        layOut(all, trial);
        net.settle(trial);
        return trial.broken ? NONE : trim(all, cell, high, trial.bound(cell, high));
    }

    /** Searches for the first setting: 1 when it is found, 0 when there is none, NONE at the limit. */
    public int solve(int limit) throws IllegalArgumentException {
        if (!isLimit(limit)) {
            throw new IllegalArgumentException("a limit is 0 .. 300");
        }
        beginSearch(0, false, limit);
        return search.explore(net, 0);
    }

    /** The least value that a cell has in any setting; NONE at the limit or when there is no setting. */
    public int least(int cell, int limit) throws IllegalArgumentException {
        if (!isCell(cell) || !isLimit(limit)) {
            throw new IllegalArgumentException("no such cell, or a limit that is not 0 .. 300");
        }
        beginSearch(cell, false, limit);
        return search.explore(net, 0) == FOUND ? search.setting[cell] : NONE;
    }

    /** The greatest value that a cell has in any setting; NONE at the limit or when there is no setting. */
    public int greatest(int cell, int limit) throws IllegalArgumentException {
        if (!isCell(cell) || !isLimit(limit)) {
            throw new IllegalArgumentException("no such cell, or a limit that is not 0 .. 300");
        }
        beginSearch(cell, true, limit);
        return search.explore(net, 0) == FOUND ? search.setting[cell] : NONE;
    }

    /** How many steps the latest search made. */
    public int steps() {
        return search.made;
    }

    /** A cell's value in the setting, or NONE. */
    public int value(int cell) {
        return cell >= 0 && cell < search.settingCells ? search.setting[cell] : NONE;
    }

    /** Whether the setting satisfies a relation, be it good or taken away. */
    public boolean satisfied(int r) {
        if (!net.has(r)) {
            return false;
        }
        Relation relation = net.relations[r];
        boolean hasAllValues = relation.cells >> search.settingCells == 0;
        return hasAllValues && net.isMet(relation, search.setting);
    }

    private boolean isCell(int cell) {
        return cell >= 0 && cell < cells;
    }

    private static boolean isTable(int t) {
        return t >= 0 && t < MOST_TABLES;
    }

    private static boolean isRange(int low, int high) {
        return -FARTHEST_VALUE <= low && low <= high && high <= FARTHEST_VALUE;
    }

    private static boolean isLimit(int limit) {
        return limit >= 0 && limit <= MOST_STEPS;
    }

    private boolean isRelation(int kind, int a, int b, int c) {
        switch (kind) {
            case SUM:
            case PRODUCT:
            case QUOTIENT:
            case LESSER:
            case GREATER:
            case IF:
                return isCell(a) && isCell(b) && isCell(c);
            case AT_MOST:
                return isCell(a) && isCell(b) && -FARTHEST_GAP <= c && c <= FARTHEST_GAP;
            case DIFFERENT:
                return a >> cells == 0 && Integer.bitCount(a) >= 2;
            case TABLE:
                return isCell(a) && isCell(b) && isTable(c);
            default:
                return false;
        }
    }

    private int entriesInForce() {
        int bits = 0;
        for (int e = 0; e < entryCount; e++) {
            if (entries[e].inForce) {
                bits |= 1 << e;
            }
        }
        return bits;
    }

    /** Makes ranges of the first ones and the chosen entries, and lets every relation be due. */
    private void layOut(int chosen, Ranges ranges) {
        ranges.copyFrom(first);
        for (int e = 0; e < entryCount; e++) {
            if ((chosen >> e & 1) == 1) {
                ranges.keep(entries[e].cell, entries[e].low, entries[e].high);
            }
        }
        ranges.changed = (1 << cells) - 1;
    }

    /** Trims entries by the test that, narrowed with them, the cell's bound is the one that is due. */
    private int trim(int all, int cell, boolean upper, int due) {
        int kept = all;
        for (int e = entryCount - 1; e >= 0; e--) {
            int without = kept & ~(1 << e);
            if (without != kept) {
                layOut(without, trial);
                net.settle(trial);
                kept = trial.bound(cell, upper) == due ? without : kept;
            }
        }
        return kept;
    }

    private void beginSearch(int firstCell, boolean down, int limit) {
        search.begin(cells, firstCell, down, limit);
        layOut(entriesInForce(), search.levels[0]);
        net.settle(search.levels[0]);
    }

    /** A range for a cell that is looked at as long as it is in force. */
    private static final class Entry {
        int cell;
        int low;
        int high;
        boolean inForce;
    }

    private static final class Table {
        final int[] x = new int[MOST_ROWS];
        final int[] y = new int[MOST_ROWS];
        int rows;
    }

    private static final class Relation {
        int kind;
        int a;
        int b;
        int c;
        /** The cells that the relation looks at, as bits. */
        int cells;
        boolean good;

        void become(int newKind, int newA, int newB, int newC) {
            kind = newKind;
            a = newA;
            b = newB;
            c = newC;
            good = true;
            if (kind == DIFFERENT) {
                cells = a;
            } else if (kind == AT_MOST || kind == TABLE) {
                cells = 1 << a | 1 << b;
            } else {
                cells = 1 << a | 1 << b | 1 << c;
            }
        }
    }

    /** A low and a high for each cell, and what has become of them. */
    private static final class Ranges {
        final int[] low = new int[MOST_CELLS];
        final int[] high = new int[MOST_CELLS];
        /** The cells whose range was made smaller, as bits, until the one who reads them clears them. */
        int changed;
        boolean broken;

        void copyFrom(Ranges other) {
            System.arraycopy(other.low, 0, low, 0, MOST_CELLS);
            System.arraycopy(other.high, 0, high, 0, MOST_CELLS);
            changed = 0;
            broken = false;
        }

        int width(int cell) {
            return high[cell] - low[cell];
        }

        /** A cell's low or high; NONE after a contradiction. */
        int bound(int cell, boolean upper) {
            if (broken) {
                return NONE;
            }
            return upper ? high[cell] : low[cell];
        }

        void raise(int cell, int least) {
            if (least > low[cell]) {
                low[cell] = least;
                changed |= 1 << cell;
                broken = broken || least > high[cell];
            }
        }

        void lower(int cell, int most) {
            if (most < high[cell]) {
                high[cell] = most;
                changed |= 1 << cell;
                broken = broken || most < low[cell];
            }
        }

        void keep(int cell, int least, int most) {
            raise(cell, least);
            lower(cell, most);
        }
    }

    /** The least and the greatest of the values that were taken. */
    private static final class Span {
        int least;
        int most;

        void clear() {
            least = BEYOND;
            most = -BEYOND;
        }

        void take(int v) {
            least = Math.min(least, v);
            most = Math.max(most, v);
        }

        boolean isEmpty() {
            return least > most;
        }
    }

    /** All relations and tables, and how they narrow ranges. */
    private static final class Net {
        final Relation[] relations = new Relation[MOST_RELATIONS];
        final Table[] tables = new Table[MOST_TABLES];
        int count;
        private final Span outers = new Span();
        private final Span inners = new Span();
        private final Span results = new Span();

        Net() {
            for (int r = 0; r < MOST_RELATIONS; r++) {
                relations[r] = new Relation();
            }
            for (int t = 0; t < MOST_TABLES; t++) {
                tables[t] = new Table();
            }
        }

        boolean has(int r) {
            return r >= 0 && r < count;
        }

        /** Whether values satisfy a relation, by a plain test. */
        boolean isMet(Relation r, int[] v) {
            switch (r.kind) {
                case SUM:
                    return v[r.a] + v[r.b] == v[r.c];
                case PRODUCT:
                    return v[r.a] * v[r.b] == v[r.c];
                case QUOTIENT:
                    return v[r.b] != 0 && Math.floorDiv(v[r.a], v[r.b]) == v[r.c];
                case LESSER:
                    return Math.min(v[r.a], v[r.b]) == v[r.c];
                case GREATER:
                    return Math.max(v[r.a], v[r.b]) == v[r.c];
                case AT_MOST:
                    return v[r.a] + r.c <= v[r.b];
                case IF:
                    return v[r.a] < 1 || v[r.b] <= v[r.c];
                case DIFFERENT:
                    return areDifferent(r.cells, v);
                case TABLE:
                    return hasRow(tables[r.c], v[r.a], v[r.b]);
                default:
                    return false;
            }
        }

        private static boolean areDifferent(int members, int[] v) {
            for (int i = 0; i < MOST_CELLS; i++) {
                for (int j = i + 1; j < MOST_CELLS; j++) {
                    boolean bothIn = (members >> i & members >> j & 1) == 1;
                    if (bothIn && v[i] == v[j]) {
                        return false;
                    }
                }
            }
            return true;
        }

        private static boolean hasRow(Table table, int x, int y) {
            for (int k = 0; k < table.rows; k++) {
                if (table.x[k] == x && table.y[k] == y) {
                    return true;
                }
            }
            return false;
        }

        /** The good relations, as bits, that look at one of some cells. */
        private int touching(int cells) {
            int bits = 0;
            for (int r = 0; r < count; r++) {
                if (relations[r].good && (relations[r].cells & cells) != 0) {
                    bits |= 1 << r;
                }
            }
            return bits;
        }

        /** Narrows by all good relations that look at a changed cell, until nothing changes. */
        void settle(Ranges ranges) {
            int due = touching(ranges.changed);
            for (int round = 0; round < ENOUGH_ROUNDS && due != 0 && !ranges.broken; round++) {
                for (int r = 0; r < count && !ranges.broken; r++) {
                    int bit = 1 << r;
                    if ((due & bit) != 0) {
                        ranges.changed = 0;
                        narrowBy(relations[r], ranges);
                        // Narrowing is exact: by the same relation at once again it would change nothing.
                        due = (due | touching(ranges.changed)) & ~bit;
                    }
                }
            }
        }

        private void narrowBy(Relation r, Ranges ranges) {
            switch (r.kind) {
                case AT_MOST:
                    narrowByAtMost(r.a, r.b, r.c, ranges);
                    break;
                case IF:
                    narrowByIf(r, ranges);
                    break;
                case DIFFERENT:
                    narrowByDifferent(r.cells, ranges);
                    break;
                case TABLE:
                    narrowByTable(r, tables[r.c], ranges);
                    break;
                default:
                    if (rises(r.kind) && Integer.bitCount(r.cells) == 3) {
                        narrowByRise(r, ranges);
                    } else {
                        narrowByFormula(r, ranges);
                    }
                    break;
            }
        }

        private static boolean rises(int kind) {
            return kind == SUM || kind == LESSER || kind == GREATER;
        }

        /**
         * Narrows where c rises with a and with b, and leaves out no value on its way: of three different
         * cells, each then has a whole range of values, which the ends of the other two alone tell.
         */
        private static void narrowByRise(Relation r, Ranges ranges) {
            int[] low = ranges.low;
            int[] high = ranges.high;
            int least = low[r.c];
            int most = high[r.c];
            ranges.keep(r.a, leastFit(r.kind, high[r.b], least, most), mostFit(r.kind, low[r.b], least, most));
            ranges.keep(r.b, leastFit(r.kind, high[r.a], least, most), mostFit(r.kind, low[r.a], least, most));
            ranges.keep(r.c, result(r.kind, low[r.a], low[r.b]), result(r.kind, high[r.a], high[r.b]));
        }

        private static void narrowByAtMost(int a, int b, int gap, Ranges ranges) {
            if (a == b) {
                ranges.broken = ranges.broken || gap > 0;
            } else {
                ranges.lower(a, ranges.high[b] - gap);
                ranges.raise(b, ranges.low[a] + gap);
            }
        }

        private static void narrowByIf(Relation r, Ranges ranges) {
            if (ranges.low[r.a] >= 1) {
                narrowByAtMost(r.b, r.c, 0, ranges);
                return;
            }
            // As a can be below 1, all that b and c have stays; only the a of 1 and more need b and c.
            int top = ranges.high[r.a];
            if (r.b != r.c) {
                if (r.a == r.b) {
                    top = ranges.high[r.c];
                } else if (ranges.low[r.b] > ranges.high[r.c]) {
                    top = 0;
                }
            }
            ranges.lower(r.a, Math.max(top, 0));
        }

        private void narrowByTable(Relation r, Table table, Ranges ranges) {
            outers.clear();
            inners.clear();
            for (int k = 0; k < table.rows; k++) {
                int x = table.x[k];
                int y = table.y[k];
                boolean fits = ranges.low[r.a] <= x && x <= ranges.high[r.a]
                        && ranges.low[r.b] <= y && y <= ranges.high[r.b];
                if (fits && (r.a != r.b || x == y)) {
                    outers.take(x);
                    inners.take(y);
                }
            }
            if (outers.isEmpty()) {
                ranges.broken = true;
            } else {
                ranges.keep(r.a, outers.least, outers.most);
                ranges.keep(r.b, inners.least, inners.most);
            }
        }

        /**
         * Cells that fill a range leave no room in it for the others. As all ranges are whole, nothing
         * but such a filled range can keep a bound out of every setting.
         */
        private static void narrowByDifferent(int members, Ranges ranges) {
            boolean again = true;
            for (int round = 0; round < ENOUGH_ROUNDS && again && !ranges.broken; round++) {
                again = false;
                for (int i = 0; i < MOST_CELLS; i++) {
                    for (int j = 0; j < MOST_CELLS; j++) {
                        if ((members >> i & members >> j & 1) == 1) {
                            again |= clearIfFilled(members, ranges.low[i], ranges.high[j], ranges);
                        }
                    }
                }
            }
        }

        /** Takes the other members' bounds out of start .. end if that is filled: whether there were any. */
        private static boolean clearIfFilled(int members, int start, int end, Ranges ranges) {
            int room = end - start + 1;
            if (room < 1 || room > Integer.bitCount(members)) {
                return false;
            }
            int inside = membersWithin(members, start, end, ranges);
            int filled = Integer.bitCount(inside);
            ranges.broken = ranges.broken || filled > room;
            if (filled != room) {
                return false;
            }
            boolean any = false;
            for (int k = 0; k < MOST_CELLS; k++) {
                boolean isOther = (members >> k & 1) == 1 && (inside >> k & 1) == 0;
                if (isOther && start <= ranges.low[k] && ranges.low[k] <= end) {
                    ranges.raise(k, end + 1);
                    any = true;
                }
                if (isOther && start <= ranges.high[k] && ranges.high[k] <= end) {
                    ranges.lower(k, start - 1);
                    any = true;
                }
            }
            return any;
        }

        private static int membersWithin(int members, int start, int end, Ranges ranges) {
            int bits = 0;
            for (int k = 0; k < MOST_CELLS; k++) {
                if ((members >> k & 1) == 1 && start <= ranges.low[k] && ranges.high[k] <= end) {
                    bits |= 1 << k;
                }
            }
            return bits;
        }

        /**
         * Narrows where c is told by a and b: goes through the values of one of them, the outer cell. For
         * each, the values of the other, the inner cell, that fit it are a whole range, at whose ends c has
         * its least and its greatest value.
         */
        private void narrowByFormula(Relation r, Ranges ranges) {
            boolean throughB = goesThroughB(r, ranges);
            int outer = throughB ? r.b : r.a;
            int inner = throughB ? r.a : r.b;
            int kind = r.c == inner && inner != outer ? OWN_QUOTIENT : r.kind;
            clearSpans();
            for (int v = ranges.low[outer]; v <= ranges.high[outer]; v++) {
                int least = r.c == outer ? v : ranges.low[r.c];
                int most = r.c == outer ? v : ranges.high[r.c];
                int from = Math.max(inner == outer ? v : ranges.low[inner], leastFit(kind, v, least, most));
                int to = Math.min(inner == outer ? v : ranges.high[inner], mostFit(kind, v, least, most));
                if (from <= to) {
                    outers.take(v);
                    inners.take(from);
                    inners.take(to);
                    results.take(result(r.kind, v, from));
                    results.take(result(r.kind, v, to));
                }
            }
            if (outers.isEmpty()) {
                ranges.broken = true;
            } else {
                ranges.keep(outer, outers.least, outers.most);
                ranges.keep(inner, inners.least, inners.most);
                ranges.keep(r.c, results.least, results.most);
            }
        }

        private void clearSpans() {
            outers.clear();
            inners.clear();
            results.clear();
        }

        private static boolean goesThroughB(Relation r, Ranges ranges) {
            // A quotient neither rises nor falls all along with its divisor, which can be on both sides of 0.
            if (r.kind == QUOTIENT || r.c == r.b) {
                return true;
            }
            // In the other kinds a and b are alike: the shorter way will do, unless c must be the outer cell.
            return r.c != r.a && ranges.width(r.b) < ranges.width(r.a);
        }

        /** The least inner value that with the outer value v makes c within least .. most. */
        private static int leastFit(int kind, int v, int least, int most) {
            switch (kind) {
                case SUM:
                    return least - v;
                case PRODUCT:
                    if (v == 0) {
                        return least <= 0 && 0 <= most ? -BEYOND : BEYOND;
                    }
                    return -Math.floorDiv(v > 0 ? -least : -most, v);
                case QUOTIENT:
                    if (v == 0) {
                        return BEYOND;
                    }
                    return v > 0 ? least * v : (most + 1) * v + 1;
                case OWN_QUOTIENT:
                    if (v == 0) {
                        return BEYOND;
                    }
                    // Divided by more than 1 and rounded down, -1 stays -1, as 0 stays 0.
                    return v == 1 ? -BEYOND : v > 1 ? -1 : 0;
                case LESSER:
                    return v < least ? BEYOND : least;
                default:
                    return v < least ? least : -BEYOND;
            }
        }

        /** The greatest inner value that does; where none does, it is below the least one. */
        private static int mostFit(int kind, int v, int least, int most) {
            switch (kind) {
                case SUM:
                    return most - v;
                case PRODUCT:
                    if (v == 0) {
                        return BEYOND;
                    }
                    return Math.floorDiv(v > 0 ? most : least, v);
                case QUOTIENT:
                    return v > 0 ? most * v + v - 1 : least * v;
                case OWN_QUOTIENT:
                    return v == 1 ? BEYOND : 0;
                case LESSER:
                    return v <= most ? BEYOND : most;
                default:
                    return v > most ? -BEYOND : most;
            }
        }

        /** What c is when the outer cell has v and the inner cell has w. */
        private static int result(int kind, int v, int w) {
            switch (kind) {
                case SUM:
                    return v + w;
                case PRODUCT:
                    return v * w;
                case QUOTIENT:
                    return v == 0 ? NONE : Math.floorDiv(w, v);
                case LESSER:
                    return Math.min(v, w);
                default:
                    return Math.max(v, w);
            }
        }
    }

    /** A search for a setting, and the setting that was found latest. */
    private static final class Search {
        /** The ranges at each depth: a level sets one more cell to a value, so that there is one more than cells. */
        final Ranges[] levels = new Ranges[MOST_CELLS + 1];
        final int[] setting = new int[MOST_CELLS];
        int settingCells;
        int made;
        private final int[] order = new int[MOST_CELLS];
        private int cells;
        private boolean down;
        private int limit;

        Search() {
            for (int k = 0; k <= MOST_CELLS; k++) {
                levels[k] = new Ranges();
            }
        }

        void begin(int cellCount, int firstCell, boolean downwards, int stepLimit) {
            cells = cellCount;
            down = downwards;
            limit = stepLimit;
            made = 0;
            order[0] = firstCell;
            int next = 1;
            for (int k = 0; k < cells; k++) {
                if (k != firstCell) {
                    order[next] = k;
                    next++;
                }
            }
        }

        /** Searches from the ranges at a depth, which are narrowed: FOUND, NOTHING, or NONE at the limit. */
        private int explore(Net net, int depth) {
            Ranges here = levels[depth];
            if (here.broken) {
                return NOTHING;
            }
            int cell = firstOpenCell(here);
            if (cell == NONE) {
                System.arraycopy(here.low, 0, setting, 0, MOST_CELLS);
                settingCells = cells;
                return FOUND;
            }
            if (depth >= MOST_CELLS) {
                return NOTHING;
            }
            boolean fromHigh = down && cell == order[0];
            int width = here.width(cell);
            for (int k = 0; k <= width; k++) {
                if (made >= limit) {
                    return NONE;
                }
                made++;
                int v = fromHigh ? here.high[cell] - k : here.low[cell] + k;
                levels[depth + 1].copyFrom(here);
                levels[depth + 1].keep(cell, v, v);
                net.settle(levels[depth + 1]);
                int end = explore(net, depth + 1);
                if (end != NOTHING) {
                    return end;
                }
            }
            return NOTHING;
        }

        private int firstOpenCell(Ranges ranges) {
            for (int k = 0; k < cells; k++) {
                if (ranges.width(order[k]) > 0) {
                    return order[k];
                }
            }
            return NONE;
        }
    }
}
