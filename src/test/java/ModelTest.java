import java.util.ArrayList;
import java.util.Arrays;
import java.util.List;

/**
 * Long runs of calls, made by a fixed rule, on a RangeSheet and on a slow model that does by plain
 * enumeration what the document says; every answer must be the same.
 */
public final class ModelTest {
    private static final int NONE = RangeSheet.NONE;
    private static final int ILLEGAL_ARGUMENT = -2001;
    private static final int ILLEGAL_STATE = -2002;

    private static int wrong = 0;

    public static void main(String[] args) {
        Dice dice = new Dice(20261115L);
        for (int n = 0; n < 6000; n++) {
            oneRelation(dice);
        }
        for (int n = 0; n < 2500; n++) {
            differentCells(dice);
        }
        for (int n = 0; n < 1500; n++) {
            run(dice, n);
        }
        System.out.println(wrong == 0 ? "all answers are the model's" : wrong + " answers are not the model's");
        if (wrong != 0) {
            System.exit(1);
        }
    }

    /** Numbers that look thrown, but are the same each time. */
    private static final class Dice {
        private long state;

        Dice(long seed) {
            state = seed;
        }

        int below(int n) {
            state = state * 6364136223846793005L + 1442695040888963407L;
            return (int) ((state >>> 33) % n);
        }

        int between(int low, int high) {
            return low + below(Math.max(1, high - low + 1));
        }

        boolean once(int n) {
            return below(n) == 0;
        }
    }

    /** Both objects, and the calls made on them, which are told when an answer is wrong. */
    private static final class Pair {
        final RangeSheet sheet = new RangeSheet();
        final Model model = new Model();
        final StringBuilder calls = new StringBuilder();
        int made = 0;

        int call(String name, int... v) {
            made++;
            int got = onSheet(name, v);
            int due = onModel(name, v);
            calls.append(name).append(Arrays.toString(v)).append(" = ").append(due).append('\n');
            if (got != due) {
                wrong++;
                if (wrong < 4) {
                    System.out.println(calls + "but the answer was " + got + "\n");
                }
            }
            return due;
        }

        void lookAtAll() {
            for (int c = -1; c <= model.cells.size(); c++) {
                call("low", c);
                call("high", c);
                call("value", c);
            }
            for (int r = -1; r <= model.relations.size(); r++) {
                call("satisfied", r);
            }
            call("steps");
        }

        private int onSheet(String name, int[] v) {
            try {
                switch (name) {
                    case "cell": return sheet.cell(v[0], v[1]);
                    case "relate": return sheet.relate(v[0], v[1], v[2], v[3]);
                    case "hold": return sheet.hold(v[0], v[1] == 1) ? 1 : 0;
                    case "row": return sheet.row(v[0], v[1], v[2]);
                    case "set": return sheet.set(v[0], v[1], v[2]);
                    case "force": return sheet.force(v[0], v[1] == 1) ? 1 : 0;
                    case "narrow": return sheet.narrow() ? 1 : 0;
                    case "low": return sheet.low(v[0]);
                    case "high": return sheet.high(v[0]);
                    case "conflict": return sheet.conflict();
                    case "because": return sheet.because(v[0], v[1] == 1);
                    case "solve": return sheet.solve(v[0]);
                    case "least": return sheet.least(v[0], v[1]);
                    case "greatest": return sheet.greatest(v[0], v[1]);
                    case "steps": return sheet.steps();
                    case "value": return sheet.value(v[0]);
                    case "satisfied": return sheet.satisfied(v[0]) ? 1 : 0;
                    default: throw new AssertionError(name);
                }
            } catch (IllegalArgumentException e) {
                return ILLEGAL_ARGUMENT;
            } catch (IllegalStateException e) {
                return ILLEGAL_STATE;
            }
        }

        private int onModel(String name, int[] v) {
            switch (name) {
                case "cell": return model.cell(v[0], v[1]);
                case "relate": return model.relate(v);
                case "hold": return model.turn(model.good, v[0], v[1] == 1);
                case "row": return model.row(v[0], v[1], v[2]);
                case "set": return model.set(v);
                case "force": return model.turn(model.inForce, v[0], v[1] == 1);
                case "narrow": return model.narrow();
                case "low": return model.isCell(v[0]) && model.latest != null && v[0] < model.latest.length
                        ? model.latest[v[0]][0] : NONE;
                case "high": return model.isCell(v[0]) && model.latest != null && v[0] < model.latest.length
                        ? model.latest[v[0]][1] : NONE;
                case "conflict": return model.conflict();
                case "because": return model.because(v[0], v[1]);
                case "solve": return model.solve(v[0]);
                case "least": return model.extreme(v[0], v[1], false);
                case "greatest": return model.extreme(v[0], v[1], true);
                case "steps": return model.steps;
                case "value": return model.valueOf(v[0]);
                case "satisfied": return model.satisfied(v[0]) ? 1 : 0;
                default: throw new AssertionError(name);
            }
        }
    }

    /** One relation between up to three cells, often the same ones, with ranges of every width and place. */
    private static void oneRelation(Dice dice) {
        Pair pair = new Pair();
        int kind = dice.below(7);
        int reach = kind == 6 ? dice.between(1, 12) : dice.once(4) ? 100 : dice.between(1, 30);
        int middle = dice.once(3) ? dice.between(reach - 100, 100 - reach) : 0;
        int count = dice.between(1, 3);
        for (int c = 0; c < count; c++) {
            int low = middle + dice.between(-reach, reach);
            pair.call("cell", low, Math.min(100, dice.once(4) ? low : dice.between(low, middle + reach)));
        }
        int c = kind == 5 ? dice.between(-2 * reach, 2 * reach) : dice.below(count);
        pair.call("relate", kind, dice.below(count), dice.below(count), c);
        pair.call("narrow");
        pair.lookAtAll();
    }

    /** Up to ten cells that must be different, often with hardly room for all. */
    private static void differentCells(Dice dice) {
        Pair pair = new Pair();
        int count = dice.between(2, 10);
        int room = dice.between(count - 1, count + 3);
        for (int c = 0; c < count; c++) {
            int low = dice.below(room);
            pair.call("cell", low, Math.min(room, low + dice.below(dice.once(3) ? room : 4)));
        }
        pair.call("relate", 7, (1 << count) - 1, 99, -99);
        pair.call("relate", 7, dice.below(1 << count), 0, 0);
        pair.call("narrow");
        pair.lookAtAll();
        pair.call("solve", 300);
        pair.lookAtAll();
    }

    private static void run(Dice dice, int number) {
        Pair pair = new Pair();
        int reach = dice.between(2, 9);
        int count = dice.between(2, number % 10 == 0 ? 10 : 5);
        for (int n = 0; pair.made < 400 && n < 60; n++) {
            if (n < count || dice.once(25)) {
                pair.call("cell", dice.between(-reach, 2), dice.between(0, reach));
            } else {
                anyCall(pair, dice, reach);
            }
            if (dice.once(6)) {
                pair.lookAtAll();
            }
        }
    }

    private static void anyCall(Pair pair, Dice dice, int reach) {
        int cell = dice.between(dice.once(15) ? -1 : 0, pair.model.cells.size() - (dice.once(15) ? 0 : 1));
        int limit = dice.once(20) ? dice.between(-1, 302) : dice.below(dice.once(2) ? 6 : 80);
        switch (dice.below(16)) {
            case 0:
            case 1:
            case 2: anyRelation(pair, dice, reach); break;
            case 3: pair.call("hold", dice.between(-1, pair.model.relations.size()), dice.below(2)); break;
            case 4:
            case 5: pair.call("row", dice.between(0, 3) - (dice.once(9) ? 1 : 0), dice.between(-reach, reach),
                    dice.once(12) ? dice.between(-103, 103) : dice.between(-reach, reach)); break;
            case 6:
            case 7: pair.call("set", cell, dice.between(-reach, 2), dice.between(0, reach)); break;
            case 8: pair.call("force", dice.between(-1, pair.model.entries.size()), dice.below(2)); break;
            case 9: pair.call("narrow"); break;
            case 10: pair.call("conflict"); break;
            case 11:
            case 12: pair.call("because", cell, dice.below(2)); break;
            case 13: pair.call("solve", limit); break;
            case 14: pair.call("least", cell, limit); break;
            default: pair.call("greatest", cell, limit); break;
        }
    }

    private static void anyRelation(Pair pair, Dice dice, int reach) {
        int count = pair.model.cells.size();
        int kind = dice.once(20) ? dice.between(-1, 10) : dice.below(9);
        int a = dice.between(0, dice.once(15) ? count : count - 1);
        int b = dice.between(dice.once(15) ? -1 : 0, count - 1);
        int c = dice.between(dice.once(15) ? -1 : 0, count - 1);
        if (kind == 5) {
            c = dice.once(10) ? dice.between(-202, 202) : dice.between(-reach, 3);
        } else if (kind == 7) {
            a = dice.below(dice.once(10) ? 2 << count : 1 << count);
        } else if (kind == 8) {
            c = dice.between(0, dice.once(10) ? 3 : 2);
        }
        pair.call("relate", kind, a, b, c);
    }

    /** The document's words, done in the plainest way. */
    private static final class Model {
        final List<int[]> cells = new ArrayList<>();
        final List<int[]> relations = new ArrayList<>();
        final List<Boolean> good = new ArrayList<>();
        final List<int[]> entries = new ArrayList<>();
        final List<Boolean> inForce = new ArrayList<>();
        final List<List<int[]>> tables = List.of(new ArrayList<>(), new ArrayList<>(), new ArrayList<>());
        int[][] latest = null;
        int[] setting = null;
        int steps = 0;

        boolean isCell(int c) {
            return c >= 0 && c < cells.size();
        }

        private static boolean isRange(int low, int high) {
            return low >= -100 && low <= 100 && high >= -100 && high <= 100 && low <= high;
        }

        int cell(int low, int high) {
            if (!isRange(low, high)) {
                return ILLEGAL_ARGUMENT;
            }
            if (cells.size() == 10) {
                return ILLEGAL_STATE;
            }
            cells.add(new int[] {low, high});
            return cells.size() - 1;
        }

        int relate(int[] r) {
            boolean fine = r[0] >= 0 && r[0] <= 8;
            if (r[0] == 7) {
                int members = 0;
                for (int k = 0; k < 32; k++) {
                    if ((r[1] & 1 << k) != 0) {
                        members++;
                        fine = fine && isCell(k);
                    }
                }
                fine = fine && members >= 2;
            } else {
                fine = fine && isCell(r[1]) && isCell(r[2]);
                fine = fine && (r[0] == 5 ? r[3] >= -200 && r[3] <= 200
                        : r[0] == 8 ? r[3] >= 0 && r[3] <= 2 : isCell(r[3]));
            }
            if (!fine) {
                return ILLEGAL_ARGUMENT;
            }
            if (relations.size() == 12) {
                return ILLEGAL_STATE;
            }
            relations.add(r.clone());
            good.add(true);
            return relations.size() - 1;
        }

        int turn(List<Boolean> list, int k, boolean to) {
            return k >= 0 && k < list.size() && list.set(k, to) != to ? 1 : 0;
        }

        int row(int t, int x, int y) {
            if (t < 0 || t > 2 || !isRange(x, x) || !isRange(y, y) || tables.get(t).size() == 10) {
                return 0;
            }
            tables.get(t).add(new int[] {x, y});
            return tables.get(t).size();
        }

        int set(int[] e) {
            if (!isCell(e[0]) || !isRange(e[1], e[2])) {
                return ILLEGAL_ARGUMENT;
            }
            if (entries.size() == 12) {
                return ILLEGAL_STATE;
            }
            entries.add(e.clone());
            inForce.add(true);
            return entries.size() - 1;
        }

        List<Integer> cellsOf(int[] r) {
            List<Integer> list = new ArrayList<>();
            for (int k = 0; k < 10; k++) {
                boolean in = r[0] == 7 ? (r[1] & 1 << k) != 0
                        : r[1] == k || r[2] == k || r[3] == k && r[0] != 5 && r[0] != 8;
                if (in) {
                    list.add(k);
                }
            }
            return list;
        }

        boolean satisfies(int[] r, int[] v) {
            switch (r[0]) {
                case 0: return v[r[1]] + v[r[2]] == v[r[3]];
                case 1: return v[r[1]] * v[r[2]] == v[r[3]];
                case 2: return v[r[2]] != 0 && Math.floor((double) v[r[1]] / v[r[2]]) == v[r[3]];
                case 3: return (v[r[1]] < v[r[2]] ? v[r[1]] : v[r[2]]) == v[r[3]];
                case 4: return (v[r[1]] > v[r[2]] ? v[r[1]] : v[r[2]]) == v[r[3]];
                case 5: return v[r[1]] + r[3] <= v[r[2]];
                case 6: return v[r[1]] < 1 || v[r[2]] <= v[r[3]];
                case 7: {
                    List<Integer> list = cellsOf(r);
                    return list.stream().map(k -> v[k]).distinct().count() == list.size();
                }
                default: return tables.get(r[3]).stream().anyMatch(w -> w[0] == v[r[1]] && w[1] == v[r[2]]);
            }
        }

        /** Narrowed by one relation, or null. */
        int[][] narrowedBy(int[] r, int[][] ranges) {
            return r[0] == 7 ? narrowedByMatching(cellsOf(r), ranges) : narrowedByTrying(r, ranges);
        }

        private int[][] narrowedByTrying(int[] r, int[][] ranges) {
            int[][] hull = null;
            List<Integer> list = cellsOf(r);
            // c, where it is another cell, is told by a and b in these kinds: no need to try all its values
            boolean told = r[0] <= 4 && r[3] != r[1] && r[3] != r[2];
            if (told) {
                list.remove(Integer.valueOf(r[3]));
            }
            int[] v = new int[10];
            for (int k : list) {
                v[k] = ranges[k][0];
            }
            boolean more = true;
            while (more) {
                if (told) {
                    tell(r, v);
                }
                boolean within = !told || v[r[3]] >= ranges[r[3]][0] && v[r[3]] <= ranges[r[3]][1];
                if (within && satisfies(r, v)) {
                    hull = hull == null ? empty(r, ranges) : hull;
                    for (int k : cellsOf(r)) {
                        hull[k][0] = Math.min(hull[k][0], v[k]);
                        hull[k][1] = Math.max(hull[k][1], v[k]);
                    }
                }
                more = next(list, ranges, v);
            }
            return hull;
        }

        private void tell(int[] r, int[] v) {
            int x = v[r[1]];
            int y = v[r[2]];
            v[r[3]] = r[0] == 0 ? x + y : r[0] == 1 ? x * y : r[0] == 3 ? Math.min(x, y) : r[0] == 4 ? Math.max(x, y)
                    : y == 0 ? NONE : (int) Math.floor((double) x / y);
        }

        private int[][] empty(int[] r, int[][] ranges) {
            int[][] hull = copy(ranges);
            for (int k : cellsOf(r)) {
                hull[k] = new int[] {Integer.MAX_VALUE, Integer.MIN_VALUE};
            }
            return hull;
        }

        private static boolean next(List<Integer> list, int[][] ranges, int[] v) {
            for (int k : list) {
                if (v[k] < ranges[k][1]) {
                    v[k]++;
                    return true;
                }
                v[k] = ranges[k][0];
            }
            return false;
        }

        private int[][] narrowedByMatching(List<Integer> list, int[][] ranges) {
            int[][] hull = copy(ranges);
            for (int k : list) {
                int[] had = null;
                for (int v = ranges[k][0]; v <= ranges[k][1]; v++) {
                    int[][] with = copy(ranges);
                    with[k] = new int[] {v, v};
                    if (canDiffer(list, with)) {
                        had = new int[] {had == null ? v : had[0], v};
                    }
                }
                if (had == null) {
                    return null;
                }
                hull[k] = had;
            }
            return hull;
        }

        private static boolean canDiffer(List<Integer> list, int[][] ranges) {
            int[] owner = new int[201];
            Arrays.fill(owner, -1);
            for (int k : list) {
                if (!place(k, ranges, owner, new boolean[201])) {
                    return false;
                }
            }
            return true;
        }

        private static boolean place(int k, int[][] ranges, int[] owner, boolean[] seen) {
            for (int v = ranges[k][0] + 100; v <= ranges[k][1] + 100; v++) {
                if (!seen[v]) {
                    seen[v] = true;
                    if (owner[v] == -1 || place(owner[v], ranges, owner, seen)) {
                        owner[v] = k;
                        return true;
                    }
                }
            }
            return false;
        }

        private static int[][] copy(int[][] ranges) {
            int[][] twin = ranges.clone();
            for (int k = 0; k < twin.length; k++) {
                twin[k] = ranges[k].clone();
            }
            return twin;
        }

        /** Narrowed until nothing changes, or null. The last relation is taken first, as that makes no difference. */
        int[][] settled(int[][] ranges) {
            int[][] now = ranges;
            boolean again = true;
            while (again) {
                again = false;
                for (int r = relations.size() - 1; r >= 0; r--) {
                    if (good.get(r)) {
                        int[][] then = narrowedBy(relations.get(r), now);
                        if (then == null) {
                            return null;
                        }
                        again = again || !Arrays.deepEquals(now, then);
                        now = then;
                    }
                }
            }
            return now;
        }

        int[][] narrowedWith(List<Integer> chosen) {
            int[][] ranges = copy(cells.toArray(new int[0][]));
            for (int e : chosen) {
                int[] entry = entries.get(e);
                int[] range = ranges[entry[0]];
                range[0] = Math.max(range[0], entry[1]);
                range[1] = Math.min(range[1], entry[2]);
                if (range[0] > range[1]) {
                    return null;
                }
            }
            return settled(ranges);
        }

        List<Integer> allInForce() {
            List<Integer> list = new ArrayList<>();
            for (int e = 0; e < entries.size(); e++) {
                if (inForce.get(e)) {
                    list.add(e);
                }
            }
            return list;
        }

        int narrow() {
            latest = narrowedWith(allInForce());
            return latest == null ? 0 : 1;
        }

        int conflict() {
            List<Integer> kept = allInForce();
            if (narrowedWith(kept) != null) {
                return NONE;
            }
            for (int e = 11; e >= 0; e--) {
                List<Integer> without = new ArrayList<>(kept);
                if (without.remove(Integer.valueOf(e)) && narrowedWith(without) == null) {
                    kept = without;
                }
            }
            return kept.stream().mapToInt(e -> 1 << e).sum();
        }

        int because(int cell, int side) {
            if (!isCell(cell)) {
                return ILLEGAL_ARGUMENT;
            }
            List<Integer> kept = allInForce();
            int[][] all = narrowedWith(kept);
            if (all == null) {
                return NONE;
            }
            for (int e = 11; e >= 0; e--) {
                List<Integer> without = new ArrayList<>(kept);
                if (without.remove(Integer.valueOf(e))) {
                    int[][] then = narrowedWith(without);
                    kept = then != null && then[cell][side] == all[cell][side] ? without : kept;
                }
            }
            return kept.stream().mapToInt(e -> 1 << e).sum();
        }

        int solve(int limit) {
            return limit < 0 || limit > 300 ? ILLEGAL_ARGUMENT : search(-1, limit, false);
        }

        int extreme(int cell, int limit, boolean down) {
            if (!isCell(cell) || limit < 0 || limit > 300) {
                return ILLEGAL_ARGUMENT;
            }
            return search(cell, limit, down) == 1 ? setting[cell] : NONE;
        }

        private int search(int first, int limit, boolean down) {
            List<Integer> order = new ArrayList<>();
            for (int k = 0; k < cells.size(); k++) {
                order.add(k == first ? 0 : order.size(), k);
            }
            steps = 0;
            int[][] start = narrowedWith(allInForce());
            return start == null ? 0 : node(start, order, limit, down);
        }

        private int node(int[][] ranges, List<Integer> order, int limit, boolean down) {
            int open = -1;
            for (int k : order) {
                if (open == -1 && ranges[k][0] != ranges[k][1]) {
                    open = k;
                }
            }
            if (open == -1) {
                setting = Arrays.stream(ranges).mapToInt(range -> range[0]).toArray();
                return 1;
            }
            List<Integer> values = new ArrayList<>();
            for (int v = ranges[open][0]; v <= ranges[open][1]; v++) {
                values.add(down && open == order.get(0) ? 0 : values.size(), v);
            }
            for (int v : values) {
                if (steps + 1 > limit) {
                    return NONE;
                }
                steps++;
                int[][] with = copy(ranges);
                with[open] = new int[] {v, v};
                int[][] then = settled(with);
                int end = then == null ? 0 : node(then, order, limit, down);
                if (end != 0) {
                    return end;
                }
            }
            return 0;
        }

        int valueOf(int c) {
            return isCell(c) && setting != null && c < setting.length ? setting[c] : NONE;
        }

        boolean satisfied(int r) {
            if (r < 0 || r >= relations.size()) {
                return false;
            }
            for (int k : cellsOf(relations.get(r))) {
                if (valueOf(k) == NONE) {
                    return false;
                }
            }
            return satisfies(relations.get(r), setting);
        }
    }
}
