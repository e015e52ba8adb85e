/** What the tests share: names for the document's numbers, sheets to look at, and the count of wrong answers. */
class Checks {
    static final int NONE = -1000;
    static final int MIN = Integer.MIN_VALUE;
    static final int MAX = Integer.MAX_VALUE;

    static final int SUM = 0;
    static final int PRODUCT = 1;
    static final int QUOTIENT = 2;
    static final int LESSER = 3;
    static final int GREATER = 4;
    static final int AT_MOST = 5;
    static final int IF = 6;
    static final int DIFFERENT = 7;
    static final int TABLE = 8;

    static final int[] KINDS_OF_THREE_CELLS = {SUM, PRODUCT, QUOTIENT, LESSER, GREATER, IF};
    static final int[] KINDS_OF_TWO_CELLS = {AT_MOST, TABLE};

    static final String NOTHING = "nothing";
    static final String ARGUMENT = "IllegalArgumentException";
    static final String STATE = "IllegalStateException";

    /** Told before each wrong answer. */
    static String about = "";
    static int made = 0;
    static int wrong = 0;

    interface Call {
        void make();
    }

    static void due(String what, int got, int want) {
        made++;
        if (got != want) {
            tell(what + " answered " + got + ", due is " + want);
        }
    }

    static void due(String what, boolean got, boolean want) {
        made++;
        if (got != want) {
            tell(what + " answered " + got + ", due is " + want);
        }
    }

    static void due(String what, String got, String want) {
        made++;
        if (!got.equals(want)) {
            tell(what + " was\n  " + got + "\ndue is\n  " + want);
        }
    }

    /** The very class that is due, and no class below it. */
    static void throwsOnly(String what, String want, Call call) {
        made++;
        String got = NOTHING;
        try {
            call.make();
        } catch (RuntimeException e) {
            got = e.getClass().getSimpleName();
        }
        if (!got.equals(want)) {
            tell(what + " threw " + got + ", due is " + want);
        }
    }

    static void tell(String text) {
        wrong++;
        System.out.println(about + text);
    }

    /** A sheet with cells of the ranges low, high, low, high, .. */
    static RangeSheet sheet(int... bounds) {
        RangeSheet x = new RangeSheet();
        for (int k = 0; k < bounds.length; k += 2) {
            x.cell(bounds[k], bounds[k + 1]);
        }
        return x;
    }

    /** A sheet with some cells of one range. */
    static RangeSheet sheetOf(int count, int low, int high) {
        RangeSheet x = new RangeSheet();
        for (int k = 0; k < count; k++) {
            x.cell(low, high);
        }
        return x;
    }

    /** A sheet whose first cells have the ranges that are told, with one relation between them. */
    static RangeSheet related(int kind, int a, int b, int c, int... bounds) {
        RangeSheet x = sheet(bounds);
        x.relate(kind, a, b, c);
        return x;
    }

    /** Narrows, and looks whether the cells have the ranges low, high, low, high, .. then. */
    static void ranges(String what, RangeSheet x, int... bounds) {
        due(what + ": narrow", x.narrow(), true);
        told(what, x, bounds);
    }

    /** The ranges low, high, low, high, .. are those of the latest narrowing. */
    static void told(String what, RangeSheet x, int... bounds) {
        for (int k = 0; k < bounds.length; k += 2) {
            due(what + ": low of " + k / 2, x.low(k / 2), bounds[k]);
            due(what + ": high of " + k / 2, x.high(k / 2), bounds[k + 1]);
        }
        due(what + ": low of none", x.low(bounds.length / 2), NONE);
        due(what + ": high of none", x.high(bounds.length / 2), NONE);
    }

    static void contradicts(String what, RangeSheet x) {
        due(what + ": narrow", x.narrow(), false);
    }

    static void values(String what, RangeSheet x, int... v) {
        for (int k = 0; k < v.length; k++) {
            due(what + ": value of " + k, x.value(k), v[k]);
        }
        due(what + ": value of none", x.value(v.length), NONE);
    }

    /** Numbers that are no cell's, relation's or entry's while there are so many. */
    static int[] noneOf(int count) {
        return new int[] {-1, count, 12, 13, MIN, MAX, 1 << 16, -1000};
    }

    /** All that a sheet tells without being changed. */
    static String look(RangeSheet x) {
        StringBuilder text = new StringBuilder("steps ").append(x.steps());
        for (int k = 0; k < 10; k++) {
            text.append("; ").append(x.low(k)).append(' ').append(x.high(k)).append(' ').append(x.value(k));
        }
        for (int r = 0; r < 12; r++) {
            text.append(x.satisfied(r) ? " y" : " n");
        }
        return text.toString();
    }
}
