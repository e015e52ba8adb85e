import com.sun.management.ThreadMXBean;
import java.lang.management.ManagementFactory;

/** Each promise of the document by hand: ordinary inputs, the edges that it names, and wrong inputs. */
public final class PromiseTest extends Checks {

    public static void main(String[] args) {
        due("NONE", RangeSheet.NONE, -1000);
        aNewObject();
        cell();
        relate();
        hold();
        row();
        set();
        force();
        narrow();
        narrowByEachKind();
        narrowWhereCellsAreTheSame();
        lowAndHigh();
        conflict();
        because();
        solve();
        leastAndGreatest();
        steps();
        value();
        satisfied();
        theRoom();
        System.out.println(wrong == 0 ? "all promises hold" : wrong + " answers are not as promised");
        if (wrong != 0) {
            System.exit(1);
        }
    }

    /** Promise 1. */
    private static void aNewObject() {
        RangeSheet x = new RangeSheet();
        due("new: low", x.low(0), NONE);
        due("new: high", x.high(0), NONE);
        due("new: value", x.value(0), NONE);
        due("new: steps", x.steps(), 0);
        due("new: hold", x.hold(0, false), false);
        due("new: force", x.force(0, false), false);
        due("new: satisfied", x.satisfied(0), false);
        due("new: conflict", x.conflict(), NONE);
        due("new: narrow", x.narrow(), true);
        due("new: low, narrowed", x.low(0), NONE);
        due("new: solve", x.solve(0), 1);
        due("new: value, solved", x.value(0), NONE);
        throwsOnly("new: because", ARGUMENT, () -> x.because(0, true));
        throwsOnly("new: least", ARGUMENT, () -> x.least(0, 1));
        throwsOnly("new: greatest", ARGUMENT, () -> x.greatest(0, 1));
        throwsOnly("new: set", ARGUMENT, () -> x.set(0, 0, 0));
        throwsOnly("new: relate", ARGUMENT, () -> x.relate(SUM, 0, 0, 0));
        throwsOnly("new: relate of no cells", ARGUMENT, () -> x.relate(DIFFERENT, 0, 0, 0));
        due("new: row", x.row(0, 0, 0), 1);
        due("new: first cell", x.cell(0, 0), 0);
        due("new: first relation", x.relate(SUM, 0, 0, 0), 0);
        due("new: first entry", x.set(0, 0, 0), 0);
        due("another new one", new RangeSheet().cell(0, 0), 0);
    }

    /** Promise 2. */
    private static void cell() {
        RangeSheet x = new RangeSheet();
        throwsOnly("cell below -100", ARGUMENT, () -> x.cell(-101, 0));
        throwsOnly("cell above 100", ARGUMENT, () -> x.cell(0, 101));
        throwsOnly("cell all above 100", ARGUMENT, () -> x.cell(101, 101));
        throwsOnly("cell all below -100", ARGUMENT, () -> x.cell(-101, -101));
        throwsOnly("cell turned", ARGUMENT, () -> x.cell(1, 0));
        throwsOnly("cell far", ARGUMENT, () -> x.cell(MIN, MAX));
        throwsOnly("cell far, turned", ARGUMENT, () -> x.cell(MAX, MIN));
        due("cell, widest", x.cell(-100, 100), 0);
        due("cell, lowest", x.cell(-100, -100), 1);
        due("cell, highest", x.cell(100, 100), 2);
        ranges("cells", x, -100, 100, -100, -100, 100, 100);
        for (int k = 3; k < 10; k++) {
            due("cell " + k, x.cell(-k, k), k);
        }
        throwsOnly("cell of eleven", STATE, () -> x.cell(0, 0));
        throwsOnly("wrong cell of eleven", ARGUMENT, () -> x.cell(1, 0));
        due("the tenth", x.narrow() ? x.high(9) : 0, 9);
        due("no eleventh", x.low(10), NONE);
    }

    /** Promise 3. */
    private static void relate() {
        RangeSheet x = sheet(0, 9, 0, 9, 0, 9);
        for (int kind : new int[] {SUM, PRODUCT, QUOTIENT, LESSER, GREATER, IF}) {
            throwsOnly("relate, no a", ARGUMENT, () -> x.relate(kind, 3, 0, 0));
            throwsOnly("relate, no b", ARGUMENT, () -> x.relate(kind, 0, 3, 0));
            throwsOnly("relate, no c", ARGUMENT, () -> x.relate(kind, 0, 0, 3));
            throwsOnly("relate, a below 0", ARGUMENT, () -> x.relate(kind, -1, 0, 0));
            throwsOnly("relate, b below 0", ARGUMENT, () -> x.relate(kind, 0, MIN, 0));
            throwsOnly("relate, c below 0", ARGUMENT, () -> x.relate(kind, 0, 0, -1));
        }
        for (int kind : new int[] {AT_MOST, TABLE}) {
            throwsOnly("relate of two, no a", ARGUMENT, () -> x.relate(kind, 3, 0, 0));
            throwsOnly("relate of two, no b", ARGUMENT, () -> x.relate(kind, 0, -1, 0));
        }
        throwsOnly("no kind below 0", ARGUMENT, () -> x.relate(-1, 0, 1, 2));
        throwsOnly("no kind 9", ARGUMENT, () -> x.relate(9, 0, 1, 2));
        throwsOnly("at most 201", ARGUMENT, () -> x.relate(AT_MOST, 0, 1, 201));
        throwsOnly("at most -201", ARGUMENT, () -> x.relate(AT_MOST, 0, 1, -201));
        throwsOnly("no table 3", ARGUMENT, () -> x.relate(TABLE, 0, 1, 3));
        throwsOnly("no table -1", ARGUMENT, () -> x.relate(TABLE, 0, 1, -1));
        for (int members : new int[] {0, 1, 4, 8, 9, 15, -1, MIN, MAX, 1 << 31 | 3, 1 << 10 | 3}) {
            throwsOnly("different " + members, ARGUMENT, () -> x.relate(DIFFERENT, members, 0, 0));
        }
        due("at most 200", x.relate(AT_MOST, 0, 1, 200), 0);
        due("at most -200", x.relate(AT_MOST, 0, 1, -200), 1);
        due("different, b and c not looked at", x.relate(DIFFERENT, 7, MIN, 99), 2);
        due("different two", x.relate(DIFFERENT, 5, -1, -1), 3);
        due("last table", x.relate(TABLE, 2, 2, 2), 4);
        due("same cells", x.relate(SUM, 1, 1, 1), 5);
        for (int r = 6; r < 12; r++) {
            due("relation " + r, x.relate(IF, 0, 1, 2), r);
        }
        throwsOnly("relation of thirteen", STATE, () -> x.relate(IF, 0, 1, 2));
        throwsOnly("wrong relation of thirteen", ARGUMENT, () -> x.relate(IF, 0, 1, 3));
        due("the twelfth was good", x.hold(11, true), false);
        due("the first was good", x.hold(0, false), true);
    }

    /** Promise 4. */
    private static void hold() {
        RangeSheet x = sheet(0, 9, 0, 9);
        x.relate(AT_MOST, 0, 1, 4);
        x.relate(AT_MOST, 1, 0, -6);
        due("hold of a good one", x.hold(0, true), false);
        due("hold, taken away", x.hold(0, false), true);
        due("hold, taken away again", x.hold(0, false), false);
        ranges("without it", x, 0, 9, 0, 9);
        due("hold, good again", x.hold(0, true), true);
        ranges("with it", x, 0, 5, 4, 9);
        for (int r : new int[] {-1, 2, 12, MIN, MAX}) {
            due("hold of none", x.hold(r, false), false);
            due("hold of none", x.hold(r, true), false);
        }
    }

    /** Promise 5. */
    private static void row() {
        RangeSheet x = sheet(-100, 100, -100, 100);
        due("row of no table", x.row(3, 0, 0), 0);
        due("row of no table", x.row(-1, 0, 0), 0);
        due("row of no table", x.row(MAX, 0, 0), 0);
        due("row, x too low", x.row(1, -101, 0), 0);
        due("row, x too high", x.row(1, 101, 0), 0);
        due("row, y too low", x.row(1, 0, -101), 0);
        due("row, y too high", x.row(1, 0, MAX), 0);
        due("row at the edge", x.row(1, -100, 100), 1);
        due("row at the edge", x.row(1, 100, -100), 2);
        due("the same row again", x.row(1, 100, -100), 3);
        due("another table", x.row(0, 3, 4), 1);
        for (int k = 4; k <= 10; k++) {
            due("row " + k, x.row(1, k, k), k);
        }
        due("row of eleven", x.row(1, 0, 0), 0);
        x.relate(TABLE, 0, 1, 1);
        ranges("table 1", x, -100, 100, -100, 100);
        x.relate(TABLE, 0, 1, 0);
        contradicts("tables 0 and 1", x);
        x.hold(0, false);
        ranges("table 0", x, 3, 3, 4, 4);
        x.row(0, 5, 1);
        ranges("table 0, with one more", x, 3, 5, 1, 4);
    }

    /** Promise 6. */
    private static void set() {
        RangeSheet x = sheet(0, 9, 0, 9);
        throwsOnly("set of no cell", ARGUMENT, () -> x.set(2, 0, 0));
        throwsOnly("set of no cell", ARGUMENT, () -> x.set(-1, 0, 0));
        throwsOnly("set below -100", ARGUMENT, () -> x.set(0, -101, 0));
        throwsOnly("set above 100", ARGUMENT, () -> x.set(0, 0, 101));
        throwsOnly("set turned", ARGUMENT, () -> x.set(0, 3, 2));
        due("set, widest", x.set(0, -100, 100), 0);
        ranges("widest", x, 0, 9, 0, 9);
        due("set", x.set(0, 3, 100), 1);
        ranges("in force at once", x, 3, 9, 0, 9);
        due("set", x.set(0, -4, 7), 2);
        ranges("what they have in common", x, 3, 7, 0, 9);
        due("set past the first range", x.set(1, 10, 20), 3);
        contradicts("nothing in common with the first range", x);
        for (int e = 4; e < 12; e++) {
            due("set " + e, x.set(0, 0, 9), e);
        }
        throwsOnly("set of thirteen", STATE, () -> x.set(0, 0, 9));
        throwsOnly("wrong set of thirteen", ARGUMENT, () -> x.set(0, 9, 0));
        throwsOnly("set of thirteen, no cell", ARGUMENT, () -> x.set(2, 0, 9));
    }

    /** Promise 7. */
    private static void force() {
        RangeSheet x = sheet(0, 9);
        x.set(0, 2, 4);
        x.set(0, 4, 6);
        due("force of one in force", x.force(0, true), false);
        ranges("both", x, 4, 4);
        due("withdrawn", x.force(0, false), true);
        due("withdrawn again", x.force(0, false), false);
        ranges("one", x, 4, 6);
        due("in force again", x.force(0, true), true);
        ranges("both again", x, 4, 4);
        for (int e : new int[] {-1, 2, 12, MIN, MAX}) {
            due("force of none", x.force(e, false), false);
            due("force of none", x.force(e, true), false);
        }
    }

    /** Promise 8. */
    private static void narrow() {
        RangeSheet x = sheet(0, 100, 0, 100, 0, 100, 0, 100);
        x.relate(AT_MOST, 2, 3, 10);
        x.relate(AT_MOST, 1, 2, 10);
        x.relate(AT_MOST, 0, 1, 10);
        ranges("a chain, from both ends", x, 0, 70, 10, 80, 20, 90, 30, 100);
        x.set(0, 65, 100);
        ranges("an entry goes all the way", x, 65, 70, 75, 80, 85, 90, 95, 100);
        x.set(3, 0, 94);
        contradicts("entries against each other", x);
        due("a search makes nothing of it", x.solve(300), 0);
        x.force(1, false);
        x.solve(300);
        due("a search tells no low", x.low(0), NONE);

        RangeSheet slow = sheet(-100, 100, -100, 100, 1, 1);
        slow.relate(SUM, 0, 2, 1);
        slow.relate(AT_MOST, 1, 0, 0);
        contradicts("a contradiction a long way off", slow);

        RangeSheet back = sheet(0, 20, 3, 9, -5, 30);
        back.relate(SUM, 0, 1, 2);
        ranges("a sum forwards", back, 0, 20, 3, 9, 3, 29);
        back.set(2, 10, 12);
        ranges("a sum backwards", back, 1, 9, 3, 9, 10, 12);
    }

    private static void narrowByEachKind() {
        byKind("sum", SUM, new int[] {-5, 20, -3, 9, 10, 60}, 1, 20, -3, 9, 10, 29);
        byKind("product", PRODUCT, new int[] {-10, 10, -3, 4, 12, 60}, -10, 10, -3, 4, 12, 40);
        byKind("product with gaps", PRODUCT, new int[] {4, 5, 4, 5, 17, 24}, 4, 5, 4, 5, 20, 20);
        byKind("product, none", PRODUCT, new int[] {4, 5, 4, 5, 17, 19});
        byKind("product of 0", PRODUCT, new int[] {-9, 9, 3, 4, -2, 2}, 0, 0, 3, 4, 0, 0);
        byKind("product that is not 0", PRODUCT, new int[] {0, 9, 0, 9, 1, 9}, 1, 9, 1, 9, 1, 9);
        byKind("quotient", QUOTIENT, new int[] {-7, -7, 2, 2, -9, 9}, -7, -7, 2, 2, -4, -4);
        byKind("quotient by less than 0", QUOTIENT, new int[] {7, 7, -2, -2, -9, 9}, 7, 7, -2, -2, -4, -4);
        byKind("quotient backwards", QUOTIENT, new int[] {-100, 100, 7, 7, -3, 4}, -21, 34, 7, 7, -3, 4);
        byKind("quotient backwards below 0", QUOTIENT, new int[] {-100, 100, -7, -7, -3, 4}, -34, 21, -7, -7, -3, 4);
        byKind("quotient by 0", QUOTIENT, new int[] {-9, 9, 0, 0, -9, 9});
        byKind("quotient not by 0", QUOTIENT, new int[] {6, 6, 0, 3, 0, 5}, 6, 6, 2, 3, 2, 3);
        byKind("quotient on both sides", QUOTIENT, new int[] {5, 5, -1, 1, -9, 9}, 5, 5, -1, 1, -5, 5);
        byKind("lesser", LESSER, new int[] {2, 8, 4, 9, 0, 5}, 2, 8, 4, 9, 2, 5);
        byKind("lesser must be b", LESSER, new int[] {6, 8, 4, 9, 0, 5}, 6, 8, 4, 5, 4, 5);
        byKind("lesser, none", LESSER, new int[] {6, 8, 6, 9, 0, 5});
        byKind("greater", GREATER, new int[] {2, 8, 4, 9, 7, 20}, 2, 8, 4, 9, 7, 9);
        byKind("greater must be a", GREATER, new int[] {2, 8, 4, 5, 6, 20}, 6, 8, 4, 5, 6, 8);
        byKind("greater, none", GREATER, new int[] {2, 3, 4, 5, 6, 20});
        byKind("if a can be below 1", IF, new int[] {0, 5, 3, 9, 1, 4}, 0, 5, 3, 9, 1, 4);
        byKind("if a must be below 1", IF, new int[] {0, 5, 5, 9, 1, 4}, 0, 0, 5, 9, 1, 4);
        byKind("if a is not below 1", IF, new int[] {1, 5, 3, 9, 1, 4}, 1, 5, 3, 4, 3, 4);
        byKind("if, none", IF, new int[] {1, 5, 5, 9, 1, 4});

        RangeSheet most = sheet(0, 10, 0, 10);
        most.relate(AT_MOST, 0, 1, -7);
        ranges("at most, c below 0", most, 0, 10, 0, 10);
        most.relate(AT_MOST, 1, 0, 3);
        ranges("at most, c above 0", most, 3, 10, 0, 7);
        most.relate(AT_MOST, 0, 1, 11);
        contradicts("at most, none", most);

        RangeSheet all = sheet(1, 2, 1, 2, 1, 4, 2, 9, 0, 5);
        all.relate(DIFFERENT, 0b1111, 0, 0);
        ranges("different", all, 1, 2, 1, 2, 3, 4, 3, 9, 0, 5);
        all.set(3, 0, 3);
        ranges("different, filled further", all, 1, 2, 1, 2, 4, 4, 3, 3, 0, 5);
        all.set(2, 0, 3);
        contradicts("different, no room", all);

        RangeSheet none = sheet(0, 5, 0, 5);
        none.relate(TABLE, 0, 1, 0);
        contradicts("a table without rows", none);
        none.row(0, 2, 6);
        contradicts("a table without a row that fits", none);
        none.row(0, 4, 1);
        none.row(0, 1, 3);
        ranges("a table", none, 1, 4, 1, 3);
    }

    private static void byKind(String what, int kind, int[] before, int... after) {
        RangeSheet x = sheet(before);
        x.relate(kind, 0, 1, 2);
        rangesOrNone(what, x, after);
    }

    private static void narrowWhereCellsAreTheSame() {
        same("a + a = c", SUM, 0, 0, 1, new int[] {0, 9, 3, 7}, 2, 3, 4, 6);
        same("a + a = odd", SUM, 0, 0, 1, new int[] {0, 9, 3, 3});
        same("a + b = a", SUM, 0, 1, 0, new int[] {2, 9, -3, 3}, 2, 9, 0, 0);
        same("a + b = b", SUM, 0, 1, 1, new int[] {-3, 3, 2, 9}, 0, 0, 2, 9);
        same("a + a = a", SUM, 0, 0, 0, new int[] {-3, 3}, 0, 0);
        same("a * a = c", PRODUCT, 0, 0, 1, new int[] {-9, 9, 5, 40}, -6, 6, 9, 36);
        same("a * b = a", PRODUCT, 0, 1, 0, new int[] {-9, 9, 2, 5}, 0, 0, 2, 5);
        same("a * b = b", PRODUCT, 0, 1, 1, new int[] {-9, 9, 2, 5}, 1, 1, 2, 5);
        same("a * a = a", PRODUCT, 0, 0, 0, new int[] {-9, 9}, 0, 1);
        same("a / a = c", QUOTIENT, 0, 0, 1, new int[] {0, 9, -9, 9}, 1, 9, 1, 1);
        same("a / b = a", QUOTIENT, 0, 1, 0, new int[] {-9, 9, 2, 5}, -1, 0, 2, 5);
        same("a / b = a by less than 0", QUOTIENT, 0, 1, 0, new int[] {-9, 9, -5, 0}, 0, 0, -5, -1);
        same("a / b = a by 1", QUOTIENT, 0, 1, 0, new int[] {-9, 9, 0, 5}, -9, 9, 1, 5);
        same("a / b = b", QUOTIENT, 0, 1, 1, new int[] {-9, 30, 0, 9}, 1, 29, 1, 5);
        same("a / a = a", QUOTIENT, 0, 0, 0, new int[] {-9, 9}, 1, 1);
        same("lesser of a and b is a", LESSER, 0, 1, 0, new int[] {2, 9, 0, 5}, 2, 5, 2, 5);
        same("lesser of a and b is b", LESSER, 0, 1, 1, new int[] {2, 9, 0, 15}, 2, 9, 0, 9);
        same("lesser of a and a is c", LESSER, 0, 0, 1, new int[] {2, 9, 0, 5}, 2, 5, 2, 5);
        same("greater of a and b is a", GREATER, 0, 1, 0, new int[] {2, 9, 4, 15}, 4, 9, 4, 9);
        same("greater of a and a is a", GREATER, 0, 0, 0, new int[] {2, 9}, 2, 9);
        same("a + 0 at most a", AT_MOST, 0, 0, 0, new int[] {2, 9}, 2, 9);
        same("a + 1 at most a", AT_MOST, 0, 0, 1, new int[] {-100, 100});
        same("if a, a at most c", IF, 0, 0, 1, new int[] {-2, 9, -5, 6}, -2, 6, -5, 6);
        same("if a, a at most less", IF, 0, 0, 1, new int[] {-2, 9, -5, -3}, -2, 0, -5, -3);
        same("if a of 1, a at most c", IF, 0, 0, 1, new int[] {3, 9, -5, 6}, 3, 6, 3, 6);
        same("if a, b at most a", IF, 0, 1, 0, new int[] {-2, 9, 10, 12}, -2, 0, 10, 12);
        same("if a of 1, b at most a", IF, 0, 1, 0, new int[] {2, 9, 5, 12}, 5, 9, 5, 9);
        same("if a, b at most b", IF, 0, 1, 1, new int[] {2, 9, 5, 12}, 2, 9, 5, 12);

        RangeSheet twins = sheet(0, 9);
        twins.row(1, 3, 4);
        twins.relate(TABLE, 0, 0, 1);
        contradicts("a row of two values for one cell", twins);
        twins.row(1, 5, 5);
        ranges("a row of one value twice", twins, 5, 5);
    }

    private static void same(String what, int kind, int a, int b, int c, int[] before, int... after) {
        RangeSheet x = sheet(before);
        x.relate(kind, a, b, c);
        rangesOrNone(what, x, after);
    }

    /** No ranges stand for a contradiction. */
    private static void rangesOrNone(String what, RangeSheet x, int... bounds) {
        if (bounds.length == 0) {
            contradicts(what, x);
        } else {
            ranges(what, x, bounds);
        }
    }

    /** Promises 9 and 10. */
    private static void lowAndHigh() {
        RangeSheet x = sheet(-3, 7);
        due("low, not narrowed", x.low(0), NONE);
        due("high, not narrowed", x.high(0), NONE);
        x.narrow();
        due("low", x.low(0), -3);
        due("high", x.high(0), 7);
        x.set(0, 0, 5);
        due("low stays until it is narrowed", x.low(0), -3);
        due("high stays until it is narrowed", x.high(0), 7);
        x.cell(1, 2);
        due("low of a newer cell", x.low(1), NONE);
        due("high of a newer cell", x.high(1), NONE);
        due("low of an older cell", x.low(0), -3);
        x.conflict();
        x.because(0, true);
        x.solve(300);
        x.least(0, 300);
        x.greatest(0, 300);
        due("nothing but narrow tells a low", x.low(0), -3);
        due("nothing but narrow tells a high", x.high(0), 7);
        due("nothing but narrow tells a newer low", x.low(1), NONE);
        x.narrow();
        due("low, narrowed anew", x.low(0), 0);
        due("high, narrowed anew", x.high(0), 5);
        due("low of the newer cell", x.low(1), 1);
        due("high of the newer cell", x.high(1), 2);
        x.set(1, 5, 6);
        x.narrow();
        due("low after a contradiction", x.low(0), NONE);
        due("high after a contradiction", x.high(1), NONE);
        x.force(1, false);
        due("low still after a contradiction", x.low(0), NONE);
        for (int cell : new int[] {-1, 2, 10, MIN, MAX}) {
            due("low of none", x.low(cell), NONE);
            due("high of none", x.high(cell), NONE);
        }
    }

    /** Promise 11. */
    private static void conflict() {
        RangeSheet x = sheet(0, 9, 0, 9, 0, 9);
        due("no entries", x.conflict(), NONE);
        x.relate(AT_MOST, 0, 1, 0);
        x.set(2, 3, 4);
        x.set(0, 6, 9);
        due("no contradiction", x.conflict(), NONE);
        x.set(1, 0, 5);
        x.set(1, 0, 4);
        x.narrow();
        due("the greatest number is left out first", x.conflict(), 0b0110);
        x.force(2, false);
        due("only entries in force", x.conflict(), 0b1010);
        x.force(2, true);
        x.set(2, 5, 6);
        due("of two contradictions the earlier one", x.conflict(), 0b00110);
        x.force(1, false);
        due("then the other", x.conflict(), 0b10001);
        x.force(4, false);
        x.narrow();
        due("none, and narrowed", x.conflict(), NONE);
        x.force(1, true);
        due("conflict", x.conflict(), 0b00110);
        due("the latest narrowing stays", x.high(1), 4);
        x.relate(AT_MOST, 0, 0, 1);
        due("a contradiction of relations alone", x.conflict(), 0);

        RangeSheet late = sheet(0, 9);
        for (int e = 0; e < 10; e++) {
            late.set(0, 0, 9);
        }
        late.set(0, 0, 3);
        late.set(0, 5, 9);
        due("the last two of twelve", late.conflict(), 0b110000000000);
    }

    /** Promise 12. */
    private static void because() {
        RangeSheet x = sheet(0, 20, 0, 20, 0, 20);
        x.relate(AT_MOST, 0, 1, 2);
        x.set(0, 5, 20);
        x.set(0, 4, 12);
        x.set(2, 7, 9);
        x.set(1, 7, 16);
        due("low of a", x.because(0, false), 0b0001);
        due("high of a", x.because(0, true), 0b0010);
        due("low of b, which two entries give: the earlier", x.because(1, false), 0b0001);
        due("high of b", x.because(1, true), 0b1000);
        due("low of another", x.because(2, false), 0b0100);
        x.force(0, false);
        due("low of b without that entry", x.because(1, false), 0b1000);
        x.force(3, false);
        due("low of b by the relation", x.because(1, false), 0b0010);
        due("high of b, the first one", x.because(1, true), 0);
        due("no narrowing yet", x.low(0), NONE);
        x.narrow();
        x.force(0, true);
        x.because(0, false);
        due("the latest narrowing stays", x.low(0), 4);
        x.set(2, 10, 11);
        due("contradiction in another cell", x.because(0, false), NONE);
        for (int cell : new int[] {-1, 3, 10, MIN, MAX}) {
            throwsOnly("because of no cell", ARGUMENT, () -> x.because(cell, true));
            throwsOnly("because of no cell", ARGUMENT, () -> x.because(cell, false));
        }
        due("low stays after contradiction", x.low(0), 4);

        RangeSheet both = sheet(0, 9, 0, 9, 0, 18);
        both.relate(SUM, 0, 1, 2);
        both.set(0, 2, 9);
        both.set(1, 3, 9);
        due("a bound that rests on two", both.because(2, false), 0b11);
        due("a bound that rests on none", both.because(2, true), 0);
    }

    /** Promise 13. */
    private static void solve() {
        RangeSheet empty = new RangeSheet();
        due("without cells", empty.solve(0), 1);
        due("without cells: steps", empty.steps(), 0);

        RangeSheet x = sheet(0, 3, 0, 3, 4, 4);
        x.relate(SUM, 0, 1, 2);
        due("solve", x.solve(300), 1);
        due("the first in order", x.value(0), 1);
        due("what follows", x.value(1), 3);
        due("one value", x.value(2), 4);
        due("a limit of 0", x.solve(0), NONE);
        due("a limit that is enough", x.solve(1), 1);
        x.relate(AT_MOST, 1, 0, 0);
        due("a limit that is just not enough", x.solve(1), NONE);
        due("a limit that is just enough", x.solve(2), 1);
        due("a later value", x.value(0), 2);
        x.set(0, 3, 3);
        due("an entry in force, with nothing to step", x.solve(0), 1);
        due("an entry in force", x.value(0), 3);
        x.set(0, 2, 2);
        due("a contradiction", x.solve(300), 0);
        due("a contradiction: steps", x.steps(), 0);
        for (int limit : new int[] {-1, 301, MIN, MAX}) {
            throwsOnly("limit " + limit, ARGUMENT, () -> x.solve(limit));
        }
        throwsOnly("limit 300", NOTHING, () -> x.solve(300));

        RangeSheet odd = sheet(0, 1, 0, 1, 0, 2);
        odd.relate(SUM, 0, 0, 2);
        odd.relate(SUM, 1, 1, 2);
        odd.relate(DIFFERENT, 3, 0, 0);
        due("none, found by steps", odd.solve(2), 0);
        due("none: all steps", odd.steps(), 2);
        due("none, the limit before", odd.solve(1), NONE);
        due("none, the limit before: steps", odd.steps(), 1);
    }

    /** Promises 14 and 15. */
    private static void leastAndGreatest() {
        RangeSheet x = sheet(0, 9, 0, 9, 0, 9);
        x.relate(SUM, 0, 1, 2);
        x.relate(PRODUCT, 0, 1, 2);
        x.set(0, 1, 9);
        due("least of c", x.least(2, 300), 4);
        due("the setting of it", x.value(0), 2);
        due("the setting of it", x.value(1), 2);
        due("greatest of c", x.greatest(2, 300), 4);
        x.hold(1, false);
        due("greatest of b", x.greatest(1, 300), 8);
        due("the others go up", x.value(0), 1);
        due("the others go up", x.value(2), 9);
        due("steps of greatest", x.steps(), 1);
        due("least of b", x.least(1, 300), 0);
        due("the others go up", x.value(0), 1);
        due("steps of least", x.steps(), 2);
        due("greatest of c", x.greatest(2, 300), 9);
        due("only the first goes down", x.value(0), 1);
        due("greatest of a, all told", x.greatest(0, 1), 9);
        due("least at the limit", x.least(1, 1), NONE);
        due("least at the limit: steps", x.steps(), 1);
        due("greatest at the limit", x.greatest(2, 1), NONE);
        due("the setting stays", x.value(0), 9);
        x.set(2, 0, 0);
        due("least of nothing", x.least(0, 300), NONE);
        due("greatest of nothing", x.greatest(0, 300), NONE);
        for (int cell : new int[] {-1, 3, 10, MIN, MAX}) {
            throwsOnly("least of no cell", ARGUMENT, () -> x.least(cell, 1));
            throwsOnly("greatest of no cell", ARGUMENT, () -> x.greatest(cell, 1));
        }
        for (int limit : new int[] {-1, 301, MIN, MAX}) {
            throwsOnly("least, limit " + limit, ARGUMENT, () -> x.least(0, limit));
            throwsOnly("greatest, limit " + limit, ARGUMENT, () -> x.greatest(0, limit));
        }
        throwsOnly("least, limit 300", NOTHING, () -> x.least(0, 300));
        throwsOnly("greatest, limit 0", NOTHING, () -> x.greatest(0, 0));

        RangeSheet gap = sheet(-100, 100, -100, 100);
        gap.relate(PRODUCT, 0, 0, 1);
        gap.set(1, 50, 80);
        due("squares: least", gap.least(0, 300), -8);
        due("squares: greatest", gap.greatest(0, 300), 8);
        due("squares: least square", gap.least(1, 300), 64);
        gap.set(1, 50, 63);
        due("squares: none", gap.least(1, 300), NONE);
        due("the setting stays", gap.value(1), 64);
    }

    /** Promise 16. */
    private static void steps() {
        RangeSheet x = sheet(0, 9, 0, 9);
        due("steps before", x.steps(), 0);
        x.solve(300);
        due("steps, one for each cell", x.steps(), 2);
        x.narrow();
        x.conflict();
        x.because(0, true);
        due("steps stay", x.steps(), 2);
        throwsOnly("a wrong search", ARGUMENT, () -> x.solve(301));
        throwsOnly("a wrong search", ARGUMENT, () -> x.least(0, -1));
        throwsOnly("a wrong search", ARGUMENT, () -> x.greatest(7, 0));
        due("a wrong search is none", x.steps(), 2);
        x.solve(1);
        due("the limit", x.steps(), 1);
        x.greatest(1, 0);
        due("a limit of 0", x.steps(), 0);

        RangeSheet deep = new RangeSheet();
        for (int k = 0; k < 10; k++) {
            deep.cell(0, 1);
        }
        due("ten cells", deep.solve(300), 1);
        due("ten levels", deep.steps(), 10);
        for (int k = 0; k < 9; k++) {
            deep.relate(DIFFERENT, 3 << k, 0, 0);
        }
        due("one after another", deep.solve(300), 1);
        due("one step tells all", deep.steps(), 1);

        RangeSheet long300 = sheet(-100, 100, -100, 100, -100, 100);
        long300.relate(PRODUCT, 0, 0, 1);
        long300.relate(PRODUCT, 2, 2, 1);
        long300.relate(SUM, 0, 2, 1);
        long300.set(0, 3, 100);
        due("a search that finds nothing", long300.solve(300), 0);
    }

    /** Promise 17. */
    private static void value() {
        RangeSheet x = sheet(4, 9, 2, 3);
        due("value before", x.value(0), NONE);
        x.narrow();
        due("narrowing makes no setting", x.value(0), NONE);
        x.solve(0);
        due("a search that finds nothing makes none", x.value(0), NONE);
        x.solve(5);
        due("value", x.value(0), 4);
        due("value", x.value(1), 2);
        x.cell(8, 8);
        due("value of a newer cell", x.value(2), NONE);
        due("value of an older cell", x.value(1), 2);
        x.set(0, 6, 7);
        x.set(1, 9, 9);
        due("nothing found", x.solve(5), 0);
        due("the setting stays", x.value(0), 4);
        due("the setting stays, without the newer cell", x.value(2), NONE);
        x.force(1, false);
        x.greatest(0, 5);
        due("a newer setting", x.value(0), 7);
        due("a newer setting", x.value(2), 8);
        for (int cell : new int[] {-1, 3, 10, MIN, MAX}) {
            due("value of none", x.value(cell), NONE);
        }
    }

    /** Promise 18. */
    private static void satisfied() {
        RangeSheet x = sheet(-7, -7, 2, 2, -4, -4, -5, -5, -14, -14, -7, -7);
        int[][] met = {{SUM, 0, 1, 3}, {PRODUCT, 0, 1, 4}, {QUOTIENT, 0, 1, 2}, {LESSER, 1, 0, 5}, {GREATER, 0, 1, 1},
            {AT_MOST, 0, 1, 9}, {IF, 0, 1, 0}, {IF, 1, 0, 1}, {DIFFERENT, 0b11111, 0, 0}};
        satisfied(x, met, true);
        RangeSheet y = sheet(-7, -7, 2, 2, -4, -4, -5, -5, -14, -14, -7, -7, 0, 0);
        int[][] broken = {{SUM, 0, 1, 2}, {PRODUCT, 0, 1, 3}, {QUOTIENT, 0, 1, 3}, {QUOTIENT, 0, 6, 0}, {LESSER, 1, 0, 1},
            {GREATER, 0, 1, 0}, {AT_MOST, 0, 1, 10}, {IF, 1, 1, 0}, {DIFFERENT, 0b100001, 0, 0}};
        satisfied(y, broken, false);

        RangeSheet t = sheet(0, 9, 0, 9);
        t.relate(TABLE, 0, 1, 0);
        t.row(0, 3, 4);
        due("satisfied, no setting", t.satisfied(0), false);
        due("solve of a table", t.solve(9), 1);
        due("satisfied, a row", t.satisfied(0), true);
        t.relate(TABLE, 1, 0, 0);
        t.relate(TABLE, 0, 1, 1);
        due("satisfied, x and y turned", t.satisfied(1), false);
        due("satisfied, another table", t.satisfied(2), false);
        t.row(1, 3, 4);
        due("satisfied, the table as it is now", t.satisfied(2), true);
        t.cell(0, 9);
        t.relate(IF, 2, 0, 1);
        t.relate(IF, 0, 0, 2);
        t.relate(DIFFERENT, 0b101, 0, 0);
        t.relate(AT_MOST, 0, 1, 2);
        due("satisfied, a value of a is none", t.satisfied(3), false);
        due("satisfied, a value of c is none", t.satisfied(4), false);
        due("satisfied, a value of different ones is none", t.satisfied(5), false);
        due("satisfied, c is no cell", t.satisfied(6), false);
        due("satisfied, older cells alone", t.satisfied(0), true);
        for (int r : new int[] {-1, 7, 12, MIN, MAX}) {
            due("satisfied of none", t.satisfied(r), false);
        }

        RangeSheet below = sheet(0, 0, 5, 5);
        below.solve(0);
        below.cell(0, 9);
        below.relate(IF, 0, 1, 2);
        due("satisfied, a is below 1, but c is none", below.satisfied(0), false);
    }

    /** All relations, taken away and good, of cells that have one value each. */
    private static void satisfied(RangeSheet x, int[][] relations, boolean want) {
        due("solve without relations", x.solve(0), 1);
        for (int[] r : relations) {
            int number = x.relate(r[0], r[1], r[2], r[3]);
            due("satisfied, good, kind " + r[0], x.satisfied(number), want);
            x.hold(number, false);
            due("satisfied, taken away, kind " + r[0], x.satisfied(number), want);
        }
    }

    /** The dearest calls of a whole object, one after another, in the room that there is for all of them. */
    private static void theRoom() {
        RangeSheet x = new RangeSheet();
        for (int k = 0; k < 10; k++) {
            x.cell(-100, 100);
        }
        for (int k = 0; k < 8; k++) {
            x.relate(k % 3, k, k + 1, k + 2);
        }
        x.relate(DIFFERENT, 1023, 0, 0);
        for (int e = 0; e < 12; e++) {
            x.set(e % 10, -100 + e, 100 - e);
        }
        ThreadMXBean meter = (ThreadMXBean) ManagementFactory.getThreadMXBean();
        long before = meter.getCurrentThreadAllocatedBytes();
        for (int n = 0; n < 160; n++) {
            x.solve(300);
            x.greatest(n % 10, 300);
            x.because(n % 10, n % 2 == 0);
        }
        long bytes = meter.getCurrentThreadAllocatedBytes() - before;
        // a room of 600,000 objects of two words, and of 7.3 million elements
        long room = 600_000L * 16 + 7_300_000L * 4;
        due("480 calls keep to the room, not " + bytes + " bytes", bytes < room, true);
        due("steps of the last search", x.steps() <= 300, true);
    }
}
