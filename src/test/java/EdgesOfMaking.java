/** The edges of promises 1 to 7: what is made, refused, taken away and put back. */
final class EdgesOfMaking extends Checks {

    // Promise 1: a new object

    @Says(promise = 1, words = "NONE = -1000")
    static void theConstant() {
        due("NONE", RangeSheet.NONE, -1000);
    }

    @Says(promise = 1, words = "No cells")
    static void aNewObjectHasNoCells() {
        RangeSheet x = new RangeSheet();
        due("low(0)", x.low(0), NONE);
        due("high(0)", x.high(0), NONE);
        due("value(0)", x.value(0), NONE);
        throwsOnly("set(0, 0, 0)", ARGUMENT, () -> x.set(0, 0, 0));
        throwsOnly("because(0, true)", ARGUMENT, () -> x.because(0, true));
        throwsOnly("least(0, 0)", ARGUMENT, () -> x.least(0, 0));
        throwsOnly("greatest(0, 0)", ARGUMENT, () -> x.greatest(0, 0));
        for (int kind = 0; kind <= 8; kind++) {
            int k = kind;
            throwsOnly("relate of kind " + k, ARGUMENT, () -> x.relate(k, 0, 0, 0));
        }
        due("the first cell", x.cell(0, 0), 0);
    }

    @Says(promise = 1, words = "No .. entries")
    static void aNewObjectHasNoEntries() {
        RangeSheet x = new RangeSheet();
        due("force(0, false)", x.force(0, false), false);
        due("force(0, true)", x.force(0, true), false);
        due("conflict()", x.conflict(), NONE);
        x.cell(-100, 100);
        ranges("no entry", x, -100, 100);
        due("the first entry", x.set(0, 0, 0), 0);
    }

    @Says(promise = 1, words = "No .. relations")
    static void aNewObjectHasNoRelations() {
        RangeSheet x = new RangeSheet();
        due("hold(0, false)", x.hold(0, false), false);
        due("hold(0, true)", x.hold(0, true), false);
        due("satisfied(0)", x.satisfied(0), false);
        x.cell(-100, 100);
        ranges("no relation", x, -100, 100);
        due("the first relation", x.relate(SUM, 0, 0, 0), 0);
    }

    @Says(promise = 1, words = "No .. rows")
    static void aNewObjectHasNoRows() {
        for (int t = 0; t <= 2; t++) {
            RangeSheet x = related(TABLE, 0, 1, t, -100, 100, -100, 100);
            contradicts("table " + t + " without rows", x);
            due("the first row of table " + t, x.row(t, 0, 0), 1);
        }
    }

    @Says(promise = 1, words = "A new object (it shares nothing with another one)")
    static void objectsShareNothing() {
        RangeSheet one = sheet(1, 5, 1, 5);
        one.relate(AT_MOST, 0, 1, 3);
        one.set(0, 2, 2);
        one.row(0, 1, 1);
        one.narrow();
        one.solve(300);
        RangeSheet other = new RangeSheet();
        due("what a new one tells", look(other), look(new RangeSheet()));
        due("its first cell", other.cell(0, 9), 0);
        due("its second cell", other.cell(0, 9), 1);
        ranges("its cells", other, 0, 9, 0, 9);
        due("its first relation", other.relate(TABLE, 0, 1, 0), 0);
        due("its first entry", other.set(0, 0, 1), 0);
        due("its first row", other.row(0, 1, 1), 1);
        told("the first object's cells", one, 2, 2, 5, 5);
        values("the first object's setting", one, 2, 5);
        due("the first object's next row", one.row(0, 1, 1), 2);
    }

    @Says(promise = 1, words = "An object is used for at most 512 calls after it has been made")
    static void theLastOf512Calls() {
        RangeSheet x = new RangeSheet();
        for (int k = 0; k < 10; k++) {
            x.cell(0, 9);
        }
        x.relate(DIFFERENT, 1023, 0, 0);
        for (int n = 0; n < 499; n++) {
            x.greatest(n % 10, 300);
        }
        due("call 511", x.solve(300), 1);
        due("call 512", x.value(9), 9);
    }

    // Promise 2: cell

    @Says(promise = 2, words = "A new cell: its number. (CELLS are 0 .. 9)")
    static void cellsAreNumberedFrom0() {
        RangeSheet x = new RangeSheet();
        for (int k = 0; k < 10; k++) {
            due("cell", x.cell(k, k + 1), k);
        }
        ranges("ten cells", x, 0, 1, 1, 2, 2, 3, 3, 4, 4, 5, 5, 6, 6, 7, 7, 8, 8, 9, 9, 10);
    }

    @Says(promise = 2, words = "IllegalArgumentException when low .. is not within -100 .. 100 (too small)")
    static void cellWithLowTooSmall() {
        RangeSheet x = new RangeSheet();
        for (int low : new int[] {-101, -102, -1000, MIN}) {
            throwsOnly("cell(" + low + ", 0)", ARGUMENT, () -> x.cell(low, 0));
            throwsOnly("cell(" + low + ", 100)", ARGUMENT, () -> x.cell(low, 100));
        }
        due("low of -100", x.cell(-100, 0), 0);
        ranges("low of -100", x, -100, 0);
    }

    @Says(promise = 2, words = "IllegalArgumentException when low .. is not within -100 .. 100 (too large)")
    static void cellWithLowTooLarge() {
        RangeSheet x = new RangeSheet();
        for (int low : new int[] {101, 102, 1000, MAX}) {
            throwsOnly("cell(" + low + ", " + low + ")", ARGUMENT, () -> x.cell(low, low));
            throwsOnly("cell(" + low + ", 100)", ARGUMENT, () -> x.cell(low, 100));
        }
        due("low of 100", x.cell(100, 100), 0);
        ranges("low of 100", x, 100, 100);
    }

    @Says(promise = 2, words = "IllegalArgumentException when .. high is not within -100 .. 100 (too large)")
    static void cellWithHighTooLarge() {
        RangeSheet x = new RangeSheet();
        for (int high : new int[] {101, 102, 1000, MAX}) {
            throwsOnly("cell(0, " + high + ")", ARGUMENT, () -> x.cell(0, high));
            throwsOnly("cell(-100, " + high + ")", ARGUMENT, () -> x.cell(-100, high));
        }
        due("high of 100", x.cell(0, 100), 0);
        ranges("high of 100", x, 0, 100);
    }

    @Says(promise = 2, words = "IllegalArgumentException when .. high is not within -100 .. 100 (too small)")
    static void cellWithHighTooSmall() {
        RangeSheet x = new RangeSheet();
        for (int high : new int[] {-101, -102, -1000, MIN}) {
            throwsOnly("cell(" + high + ", " + high + ")", ARGUMENT, () -> x.cell(high, high));
            throwsOnly("cell(-100, " + high + ")", ARGUMENT, () -> x.cell(-100, high));
        }
        due("high of -100", x.cell(-100, -100), 0);
        ranges("high of -100", x, -100, -100);
    }

    @Says(promise = 2, words = "IllegalArgumentException when low or high is not within -100 .. 100 (both)")
    static void cellWithBothOutOfBounds() {
        RangeSheet x = new RangeSheet();
        throwsOnly("cell(-101, 101)", ARGUMENT, () -> x.cell(-101, 101));
        throwsOnly("cell(MIN, MAX)", ARGUMENT, () -> x.cell(MIN, MAX));
        throwsOnly("cell(MAX, MIN)", ARGUMENT, () -> x.cell(MAX, MIN));
        due("the widest", x.cell(-100, 100), 0);
        ranges("the widest", x, -100, 100);
    }

    @Says(promise = 2, words = "IllegalArgumentException when .. low is above high")
    static void cellWithLowAboveHigh() {
        RangeSheet x = new RangeSheet();
        throwsOnly("cell(1, 0)", ARGUMENT, () -> x.cell(1, 0));
        throwsOnly("cell(0, -1)", ARGUMENT, () -> x.cell(0, -1));
        throwsOnly("cell(100, 99)", ARGUMENT, () -> x.cell(100, 99));
        throwsOnly("cell(-99, -100)", ARGUMENT, () -> x.cell(-99, -100));
        throwsOnly("cell(100, -100)", ARGUMENT, () -> x.cell(100, -100));
        due("low as high", x.cell(0, 0), 0);
        ranges("low as high", x, 0, 0);
    }

    @Says(promise = 2, words = "IllegalStateException when there are ten")
    static void cellOfEleven() {
        RangeSheet x = sheetOf(9, 0, 9);
        due("the tenth", x.cell(-7, 7), 9);
        throwsOnly("the eleventh", STATE, () -> x.cell(0, 0));
        throwsOnly("the eleventh, once more", STATE, () -> x.cell(-100, 100));
        ranges("there are ten", x, 0, 9, 0, 9, 0, 9, 0, 9, 0, 9, 0, 9, 0, 9, 0, 9, 0, 9, -7, 7);
    }

    @Says(promise = 2, words = "IllegalArgumentException when ..; IllegalStateException when there are ten (in this order)")
    static void wrongCellOfEleven() {
        RangeSheet x = sheetOf(10, 0, 9);
        throwsOnly("cell(1, 0)", ARGUMENT, () -> x.cell(1, 0));
        throwsOnly("cell(-101, 0)", ARGUMENT, () -> x.cell(-101, 0));
        throwsOnly("cell(0, 101)", ARGUMENT, () -> x.cell(0, 101));
    }

    @Says(promise = 2, words = "A new cell (a refused one is none)")
    static void aRefusedCellIsNone() {
        RangeSheet x = sheet(3, 4);
        x.narrow();
        x.solve(9);
        String before = look(x);
        throwsOnly("cell(5, 4)", ARGUMENT, () -> x.cell(5, 4));
        throwsOnly("cell(0, 101)", ARGUMENT, () -> x.cell(0, 101));
        due("what is told", look(x), before);
        ranges("one cell", x, 3, 4);
        due("the next number", x.cell(1, 2), 1);
        ranges("two cells", x, 3, 4, 1, 2);
    }

    // Promise 3: relate

    @Says(promise = 3, words = "A new relation .. : its number. (RELATIONS are 0 .. 11)")
    static void relationsAreNumberedFrom0() {
        RangeSheet x = sheetOf(3, 0, 9);
        for (int r = 0; r < 12; r++) {
            int kind = r % 9;
            due("kind " + kind, x.relate(kind, kind == DIFFERENT ? 0b110 : 1, 1, 1), r);
        }
    }

    @Says(promise = 3, words = "A new relation, which holds good")
    static void aNewRelationHoldsGood() {
        RangeSheet x = sheet(0, 9, 0, 9);
        ranges("before", x, 0, 9, 0, 9);
        int r = x.relate(AT_MOST, 0, 1, 4);
        told("until it is narrowed", x, 0, 9, 0, 9);
        ranges("after", x, 0, 5, 4, 9);
        due("hold(r, true)", x.hold(r, true), false);
        due("hold(r, false)", x.hold(r, false), true);
    }

    @Says(promise = 3, words = "IllegalArgumentException when there is no such kind")
    static void relateOfNoKind() {
        RangeSheet x = sheetOf(10, 0, 9);
        for (int kind : new int[] {-1, 9, 10, -1000, MIN, MAX, 1 << 16}) {
            throwsOnly("relate(" + kind + ", 0, 1, 2)", ARGUMENT, () -> x.relate(kind, 0, 1, 2));
            throwsOnly("relate(" + kind + ", 3, 1, 2)", ARGUMENT, () -> x.relate(kind, 3, 1, 2));
        }
        due("the least kind", x.relate(0, 0, 1, 2), 0);
        due("the greatest kind", x.relate(8, 0, 1, 2), 1);
    }

    @Says(promise = 3, words = "IllegalArgumentException when there is no such .. cell (a)")
    static void relateOfNoCellA() {
        RangeSheet x = sheetOf(3, 0, 9);
        for (int a : noneOf(3)) {
            for (int kind : KINDS_OF_THREE_CELLS) {
                throwsOnly("relate(" + kind + ", " + a + ", 0, 0)", ARGUMENT, () -> x.relate(kind, a, 0, 0));
            }
            for (int kind : KINDS_OF_TWO_CELLS) {
                throwsOnly("relate(" + kind + ", " + a + ", 0, 0)", ARGUMENT, () -> x.relate(kind, a, 0, 0));
            }
        }
        everyKindWith(x, 2, 0, 0);
    }

    @Says(promise = 3, words = "IllegalArgumentException when there is no such .. cell (b)")
    static void relateOfNoCellB() {
        RangeSheet x = sheetOf(3, 0, 9);
        for (int b : noneOf(3)) {
            for (int kind : KINDS_OF_THREE_CELLS) {
                throwsOnly("relate(" + kind + ", 0, " + b + ", 0)", ARGUMENT, () -> x.relate(kind, 0, b, 0));
            }
            for (int kind : KINDS_OF_TWO_CELLS) {
                throwsOnly("relate(" + kind + ", 0, " + b + ", 0)", ARGUMENT, () -> x.relate(kind, 0, b, 0));
            }
        }
        everyKindWith(x, 0, 2, 0);
    }

    @Says(promise = 3, words = "IllegalArgumentException when there is no such .. cell (c)")
    static void relateOfNoCellC() {
        RangeSheet x = sheetOf(3, 0, 9);
        for (int c : noneOf(3)) {
            for (int kind : KINDS_OF_THREE_CELLS) {
                throwsOnly("relate(" + kind + ", 0, 0, " + c + ")", ARGUMENT, () -> x.relate(kind, 0, 0, c));
            }
        }
        everyKindWith(x, 0, 0, 2);
    }

    private static void everyKindWith(RangeSheet x, int a, int b, int c) {
        int r = 0;
        for (int kind : KINDS_OF_THREE_CELLS) {
            due("kind " + kind, x.relate(kind, a, b, c), r++);
        }
        for (int kind : KINDS_OF_TWO_CELLS) {
            due("kind " + kind, x.relate(kind, a, b, c), r++);
        }
    }

    @Says(promise = 3, words = "IllegalArgumentException when there is no such .. cell (yet)")
    static void relateOfACellThatIsMadeLater() {
        RangeSheet x = sheetOf(2, 0, 9);
        throwsOnly("a sum", ARGUMENT, () -> x.relate(SUM, 0, 1, 2));
        throwsOnly("different ones", ARGUMENT, () -> x.relate(DIFFERENT, 0b110, 0, 0));
        x.cell(0, 9);
        due("a sum", x.relate(SUM, 0, 1, 2), 0);
        due("different ones", x.relate(DIFFERENT, 0b110, 0, 0), 1);
    }

    @Says(promise = 3, words = "IllegalArgumentException when there is no such .. table")
    static void relateOfNoTable() {
        RangeSheet x = sheetOf(10, 0, 9);
        for (int c : new int[] {-1, 3, 4, 9, MIN, MAX}) {
            throwsOnly("relate(8, 0, 1, " + c + ")", ARGUMENT, () -> x.relate(TABLE, 0, 1, c));
        }
        for (int c = 0; c <= 2; c++) {
            due("table " + c + ", though without rows", x.relate(TABLE, 0, 1, c), c);
        }
        RangeSheet one = sheet(0, 9);
        due("table 2 where there is no cell 2", one.relate(TABLE, 0, 0, 2), 0);
    }

    @Says(promise = 3, words = "c of 7 is not looked at, nor is b")
    static void relateOfDifferentCellsLooksAtNeitherBNorC() {
        RangeSheet x = sheet(0, 9, 0, 9);
        int r = 0;
        for (int any : new int[] {MIN, -201, -1, 2, 201, MAX}) {
            due("relate(7, 3, " + any + ", 0)", x.relate(DIFFERENT, 3, any, 0), r++);
            due("relate(7, 3, 0, " + any + ")", x.relate(DIFFERENT, 3, 0, any), r++);
        }
        ranges("nor when it is narrowed", x, 0, 9, 0, 9);
        x.set(0, 0, 0);
        ranges("nor when it is narrowed", x, 0, 0, 1, 9);
    }

    @Says(promise = 3, words = "IllegalArgumentException when .. c of 5 .. is out of its bounds (too small)")
    static void relateOfAtMostWithCTooSmall() {
        RangeSheet x = sheet(-100, 100, -100, 100);
        for (int c : new int[] {-201, -202, -1000, MIN}) {
            throwsOnly("relate(5, 0, 1, " + c + ")", ARGUMENT, () -> x.relate(AT_MOST, 0, 1, c));
        }
        due("-200", x.relate(AT_MOST, 0, 1, -200), 0);
        ranges("-200", x, -100, 100, -100, 100);
        x.relate(AT_MOST, 0, 1, -199);
        x.set(1, -100, -100);
        ranges("-199", x, -100, 99, -100, -100);
    }

    @Says(promise = 3, words = "IllegalArgumentException when .. c of 5 .. is out of its bounds (too large)")
    static void relateOfAtMostWithCTooLarge() {
        RangeSheet x = sheet(-100, 100, -100, 100);
        for (int c : new int[] {201, 202, 1000, MAX}) {
            throwsOnly("relate(5, 0, 1, " + c + ")", ARGUMENT, () -> x.relate(AT_MOST, 0, 1, c));
        }
        due("200", x.relate(AT_MOST, 0, 1, 200), 0);
        ranges("200", x, -100, -100, 100, 100);
    }

    @Says(promise = 3, words = "c being no cell here but a number")
    static void relateOfAtMostWithCThatIsNoCell() {
        RangeSheet x = sheet(0, 9, 0, 9);
        due("c of 2, where there are two cells", x.relate(AT_MOST, 0, 1, 2), 0);
        due("c of -1", x.relate(AT_MOST, 0, 1, -1), 1);
        ranges("c is a number", x, 0, 7, 2, 9);
    }

    @Says(promise = 3, words = "a of 7 is out of its bounds (7: fewer than two cells ..)")
    static void relateOfFewerThanTwoDifferentCells() {
        RangeSheet x = sheetOf(10, 0, 9);
        throwsOnly("no cell", ARGUMENT, () -> x.relate(DIFFERENT, 0, 1, 2));
        for (int k = 0; k < 10; k++) {
            int one = 1 << k;
            throwsOnly("cell " + k + " alone", ARGUMENT, () -> x.relate(DIFFERENT, one, 1, 2));
        }
        due("the first two", x.relate(DIFFERENT, 0b11, 0, 0), 0);
        due("the last two", x.relate(DIFFERENT, 0b1100000000, 0, 0), 1);
        due("the first and the last", x.relate(DIFFERENT, 0b1000000001, 0, 0), 2);
        due("all ten", x.relate(DIFFERENT, 0b1111111111, 0, 0), 3);
    }

    @Says(promise = 3, words = "a of 7 is out of its bounds (7: .. or some that there are not)")
    static void relateOfDifferentCellsThatThereAreNot() {
        RangeSheet x = sheetOf(3, 0, 9);
        for (int a : new int[] {0b1001, 0b1111, 0b10000, 0b11000, -1, -8, MIN, MIN | 0b11, MAX, 1 << 10 | 0b11, 1 << 30 | 0b11}) {
            throwsOnly("relate(7, " + a + ", 0, 0) of three", ARGUMENT, () -> x.relate(DIFFERENT, a, 0, 0));
        }
        due("all three", x.relate(DIFFERENT, 0b111, 0, 0), 0);
        RangeSheet ten = sheetOf(10, 0, 9);
        for (int a : new int[] {1 << 10 | 0b11, 0b11111111111, -1, MIN | 0b11, 1 << 16 | 0b11, 1 << 30 | 0b11}) {
            throwsOnly("relate(7, " + a + ", 0, 0) of ten", ARGUMENT, () -> ten.relate(DIFFERENT, a, 0, 0));
        }
    }

    @Says(promise = 3, words = "cells a, b, c (which may be the same)")
    static void relateOfTheSameCells() {
        RangeSheet x = sheet(0, 9);
        everyKindWith(x, 0, 0, 0);
    }

    @Says(promise = 3, words = "IllegalStateException when there are twelve")
    static void relationOfThirteen() {
        RangeSheet x = sheetOf(3, 0, 9);
        for (int r = 0; r < 11; r++) {
            x.relate(AT_MOST, 0, 1, -200);
        }
        due("the twelfth", x.relate(AT_MOST, 0, 1, 6), 11);
        for (int kind : KINDS_OF_THREE_CELLS) {
            throwsOnly("the thirteenth, kind " + kind, STATE, () -> x.relate(kind, 0, 1, 2));
        }
        for (int kind : KINDS_OF_TWO_CELLS) {
            throwsOnly("the thirteenth, kind " + kind, STATE, () -> x.relate(kind, 0, 1, 2));
        }
        throwsOnly("the thirteenth, kind 7", STATE, () -> x.relate(DIFFERENT, 7, 0, 0));
        ranges("there are twelve", x, 0, 3, 6, 9, 0, 9);
        due("no thirteenth", x.hold(12, false), false);
    }

    @Says(promise = 3, words = "IllegalStateException when there are twelve (be they good or taken away)")
    static void relationOfThirteenThoughSomeAreTakenAway() {
        RangeSheet x = sheetOf(2, 0, 9);
        for (int r = 0; r < 12; r++) {
            x.relate(AT_MOST, 0, 1, 0);
            x.hold(r, false);
        }
        throwsOnly("the thirteenth", STATE, () -> x.relate(AT_MOST, 0, 1, 0));
    }

    @Says(promise = 3, words = "IllegalArgumentException when ..; IllegalStateException when there are twelve (in this order)")
    static void wrongRelationOfThirteen() {
        RangeSheet x = sheetOf(2, 0, 9);
        for (int r = 0; r < 12; r++) {
            x.relate(AT_MOST, 0, 1, 0);
        }
        throwsOnly("no kind", ARGUMENT, () -> x.relate(9, 0, 1, 0));
        throwsOnly("no cell", ARGUMENT, () -> x.relate(SUM, 0, 1, 2));
        throwsOnly("no table", ARGUMENT, () -> x.relate(TABLE, 0, 1, 3));
        throwsOnly("c of 5", ARGUMENT, () -> x.relate(AT_MOST, 0, 1, 201));
        throwsOnly("a of 7", ARGUMENT, () -> x.relate(DIFFERENT, 1, 0, 0));
    }

    @Says(promise = 3, words = "A new relation (a refused one is none)")
    static void aRefusedRelationIsNone() {
        RangeSheet x = sheet(0, 9, 0, 9);
        x.narrow();
        x.solve(9);
        String before = look(x);
        throwsOnly("c of 5", ARGUMENT, () -> x.relate(AT_MOST, 0, 1, 201));
        throwsOnly("a of 7", ARGUMENT, () -> x.relate(DIFFERENT, 0b111, 0, 0));
        throwsOnly("no cell c", ARGUMENT, () -> x.relate(SUM, 0, 1, 2));
        due("what is told", look(x), before);
        due("hold(0, false)", x.hold(0, false), false);
        ranges("no relation", x, 0, 9, 0, 9);
        due("the next number", x.relate(AT_MOST, 0, 1, 1), 0);
        ranges("one relation", x, 0, 8, 1, 9);
    }

    // Promise 4: hold

    @Says(promise = 4, words = "A relation holds good (true) or is taken away: true if that was otherwise before")
    static void holdTellsWhetherItWasOtherwise() {
        RangeSheet x = sheet(0, 9, 0, 9);
        x.relate(AT_MOST, 0, 1, 4);
        x.relate(AT_MOST, 1, 0, -9);
        due("good, though it was", x.hold(0, true), false);
        due("taken away", x.hold(0, false), true);
        due("taken away, though it was", x.hold(0, false), false);
        due("the other one is good still", x.hold(1, true), false);
        due("good again", x.hold(0, true), true);
        due("good, though it was", x.hold(0, true), false);
    }

    @Says(promise = 4, words = "False when there is no such relation")
    static void holdOfNoRelation() {
        RangeSheet x = sheet(0, 9, 0, 9);
        x.relate(AT_MOST, 0, 1, 4);
        x.relate(AT_MOST, 0, 1, 5);
        for (int r : noneOf(2)) {
            due("hold(" + r + ", false)", x.hold(r, false), false);
            due("hold(" + r + ", true)", x.hold(r, true), false);
            due("hold(" + r + ", false)", x.hold(r, false), false);
        }
        ranges("both are good", x, 0, 4, 5, 9);
        due("the next one", x.relate(AT_MOST, 0, 1, 6), 2);
        ranges("it is good, too", x, 0, 3, 6, 9);
    }

    @Says(promise = 4, words = "A relation holds good (true) or is taken away (the first and the last of twelve)")
    static void holdOfTheFirstAndTheLast() {
        RangeSheet x = sheet(0, 9, 0, 9);
        x.relate(AT_MOST, 0, 1, 7);
        for (int r = 1; r < 11; r++) {
            x.relate(AT_MOST, 0, 1, 0);
        }
        x.relate(AT_MOST, 0, 1, 9);
        due("the last", x.hold(11, false), true);
        ranges("without the last", x, 0, 2, 7, 9);
        due("the first", x.hold(0, false), true);
        ranges("without both", x, 0, 9, 0, 9);
        due("the last", x.hold(11, true), true);
        ranges("with the last", x, 0, 0, 9, 9);
        due("none behind the last", x.hold(12, false), false);
    }

    @Says(promise = 4, words = "is taken away (no narrowing and no search is by it then)")
    static void nothingIsNarrowedByARelationTakenAway() {
        RangeSheet x = sheet(0, 9, 0, 9);
        int r = x.relate(AT_MOST, 0, 1, 10);
        contradicts("while it is good", x);
        due("conflict, while it is good", x.conflict(), 0);
        due("because, while it is good", x.because(0, true), NONE);
        due("solve, while it is good", x.solve(300), 0);
        due("least, while it is good", x.least(1, 300), NONE);
        due("greatest, while it is good", x.greatest(0, 300), NONE);
        x.hold(r, false);
        ranges("taken away", x, 0, 9, 0, 9);
        due("conflict, taken away", x.conflict(), NONE);
        due("because, taken away", x.because(0, true), 0);
        due("solve, taken away", x.solve(300), 1);
        due("least, taken away", x.least(1, 300), 0);
        due("greatest, taken away", x.greatest(0, 300), 9);
        x.hold(r, true);
        contradicts("good again", x);
    }

    @Says(promise = 4, words = "A relation holds good or is taken away (what is told stays until it is narrowed or searched)")
    static void holdTellsNothingAnew() {
        RangeSheet x = related(AT_MOST, 0, 1, 4, 0, 9, 0, 9);
        x.narrow();
        x.solve(300);
        String before = look(x);
        x.hold(0, false);
        due("taken away", look(x), before);
        x.hold(0, true);
        due("good again", look(x), before);
    }

    // Promise 5: row

    @Says(promise = 5, words = "One more row of table t: how many it has")
    static void rowTellsHowManyThereAre() {
        RangeSheet x = new RangeSheet();
        for (int n = 1; n <= 10; n++) {
            for (int t = 0; t <= 2; t++) {
                due("row " + n + " of table " + t, x.row(t, n, -n), n);
            }
        }
    }

    @Says(promise = 5, words = "One more row (be it the same as another)")
    static void theSameRowAgain() {
        RangeSheet x = new RangeSheet();
        for (int n = 1; n <= 10; n++) {
            due("the same row", x.row(1, 5, 5), n);
        }
        due("the eleventh", x.row(1, 5, 5), 0);
    }

    @Says(promise = 5, words = "0, and nothing is done, when there is no such table")
    static void rowOfNoTable() {
        RangeSheet x = sheet(0, 9, 0, 9);
        for (int t : new int[] {-1, 3, 4, 10, MIN, MAX}) {
            due("row(" + t + ", 1, 1)", x.row(t, 1, 1), 0);
        }
        for (int t = 0; t <= 2; t++) {
            x.relate(TABLE, 0, 1, t);
            contradicts("table " + t + " has no row", x);
            x.hold(t, false);
            due("the first row of table " + t, x.row(t, 1, 1), 1);
        }
    }

    @Says(promise = 5, words = "0, and nothing is done, when .. x .. is not within -100 .. 100")
    static void rowWithXOutOfBounds() {
        RangeSheet x = related(TABLE, 0, 1, 0, -100, 100, -100, 100);
        for (int v : new int[] {-101, 101, -102, 102, MIN, MAX}) {
            due("row(0, " + v + ", 0)", x.row(0, v, 0), 0);
        }
        contradicts("no row", x);
        due("x of -100", x.row(0, -100, 7), 1);
        ranges("x of -100", x, -100, -100, 7, 7);
        due("x of 100", x.row(0, 100, 7), 2);
        ranges("x of 100", x, -100, 100, 7, 7);
    }

    @Says(promise = 5, words = "0, and nothing is done, when .. y is not within -100 .. 100")
    static void rowWithYOutOfBounds() {
        RangeSheet x = related(TABLE, 0, 1, 0, -100, 100, -100, 100);
        for (int v : new int[] {-101, 101, -102, 102, MIN, MAX}) {
            due("row(0, 0, " + v + ")", x.row(0, 0, v), 0);
        }
        contradicts("no row", x);
        due("y of -100", x.row(0, 7, -100), 1);
        ranges("y of -100", x, 7, 7, -100, -100);
        due("y of 100", x.row(0, 7, 100), 2);
        ranges("y of 100", x, 7, 7, -100, 100);
    }

    @Says(promise = 5, words = "One more row (x may be above y, or below it, or the same)")
    static void rowWithXAboveY() {
        RangeSheet x = related(TABLE, 0, 1, 2, -100, 100, -100, 100);
        due("x above y", x.row(2, 100, -100), 1);
        due("x below y", x.row(2, -100, 100), 2);
        due("x as y", x.row(2, 0, 0), 3);
        x.set(0, 50, 100);
        ranges("x above y", x, 100, 100, -100, -100);
    }

    @Says(promise = 5, words = "0, and nothing is done, when .. it has ten")
    static void rowOfEleven() {
        RangeSheet x = related(TABLE, 0, 1, 1, -100, 100, -100, 100);
        for (int n = 1; n <= 10; n++) {
            due("row " + n, x.row(1, n, 2 * n), n);
        }
        due("the eleventh", x.row(1, 50, 60), 0);
        due("the eleventh, once more", x.row(1, -50, -60), 0);
        ranges("the first to the tenth", x, 1, 10, 2, 20);
        due("another table", x.row(0, 50, 60), 1);
        due("another table", x.row(2, 50, 60), 1);
        ranges("the first to the tenth still", x, 1, 10, 2, 20);
    }

    @Says(promise = 5, words = "when there is no such table .. or it has ten (no exception, whatever is wrong)")
    static void rowThrowsNothing() {
        RangeSheet x = new RangeSheet();
        for (int n = 0; n < 10; n++) {
            x.row(2, 0, 0);
        }
        throwsOnly("row(MIN, MIN, MIN)", NOTHING, () -> x.row(MIN, MIN, MIN));
        throwsOnly("row(MAX, MAX, MAX)", NOTHING, () -> x.row(MAX, MAX, MAX));
        throwsOnly("a wrong eleventh row", NOTHING, () -> x.row(2, 101, -101));
        due("a wrong eleventh row", x.row(2, 101, -101), 0);
    }

    @Says(promise = 5, words = "One more row (what is told stays until it is narrowed or searched)")
    static void rowTellsNoRangeAnew() {
        RangeSheet x = related(TABLE, 0, 1, 0, 0, 9, 0, 9);
        x.row(0, 2, 3);
        x.narrow();
        x.solve(300);
        String before = look(x);
        x.row(0, 4, 1);
        due("one more row", look(x), before);
        ranges("narrowed", x, 2, 4, 1, 3);
    }

    // Promise 6: set

    @Says(promise = 6, words = "A new entry, in force: its number. (ENTRIES are 0 .. 11)")
    static void entriesAreNumberedFrom0() {
        RangeSheet x = sheet(0, 100, 0, 100);
        for (int e = 0; e < 12; e++) {
            due("set", x.set(e % 2, e, 100), e);
            due("force(e, true)", x.force(e, true), false);
        }
        ranges("all are in force", x, 10, 100, 11, 100);
    }

    @Says(promise = 6, words = "IllegalArgumentException when there is no such cell")
    static void setOfNoCell() {
        RangeSheet x = sheetOf(3, 0, 9);
        for (int cell : noneOf(3)) {
            throwsOnly("set(" + cell + ", 0, 9)", ARGUMENT, () -> x.set(cell, 0, 9));
        }
        due("the last cell", x.set(2, 1, 2), 0);
        x.cell(0, 9);
        due("a newer cell", x.set(3, 3, 4), 1);
        ranges("two entries", x, 0, 9, 0, 9, 1, 2, 3, 4);
        RangeSheet ten = sheetOf(10, 0, 9);
        throwsOnly("set(10, 0, 9)", ARGUMENT, () -> ten.set(10, 0, 9));
        due("set(9, 0, 9)", ten.set(9, 0, 9), 0);
    }

    @Says(promise = 6, words = "IllegalArgumentException when .. low .. is not as for a cell (not within -100 .. 100)")
    static void setWithLowOutOfBounds() {
        RangeSheet x = sheet(-100, 100);
        for (int low : new int[] {-101, -102, MIN}) {
            throwsOnly("set(0, " + low + ", 0)", ARGUMENT, () -> x.set(0, low, 0));
        }
        for (int low : new int[] {101, 102, MAX}) {
            throwsOnly("set(0, " + low + ", " + low + ")", ARGUMENT, () -> x.set(0, low, low));
        }
        due("low of -100", x.set(0, -100, 0), 0);
        ranges("low of -100", x, -100, 0);
        x.force(0, false);
        due("low of 100", x.set(0, 100, 100), 1);
        ranges("low of 100", x, 100, 100);
    }

    @Says(promise = 6, words = "IllegalArgumentException when .. high is not as for a cell (not within -100 .. 100)")
    static void setWithHighOutOfBounds() {
        RangeSheet x = sheet(-100, 100);
        for (int high : new int[] {101, 102, MAX}) {
            throwsOnly("set(0, 0, " + high + ")", ARGUMENT, () -> x.set(0, 0, high));
        }
        for (int high : new int[] {-101, -102, MIN}) {
            throwsOnly("set(0, " + high + ", " + high + ")", ARGUMENT, () -> x.set(0, high, high));
        }
        due("high of 100", x.set(0, 0, 100), 0);
        ranges("high of 100", x, 0, 100);
        x.force(0, false);
        due("high of -100", x.set(0, -100, -100), 1);
        ranges("high of -100", x, -100, -100);
    }

    @Says(promise = 6, words = "IllegalArgumentException when .. low or high is not as for a cell (low is above high)")
    static void setWithLowAboveHigh() {
        RangeSheet x = sheet(-100, 100);
        throwsOnly("set(0, 1, 0)", ARGUMENT, () -> x.set(0, 1, 0));
        throwsOnly("set(0, 100, 99)", ARGUMENT, () -> x.set(0, 100, 99));
        throwsOnly("set(0, -99, -100)", ARGUMENT, () -> x.set(0, -99, -100));
        throwsOnly("set(0, MAX, MIN)", ARGUMENT, () -> x.set(0, MAX, MIN));
        due("low as high", x.set(0, 5, 5), 0);
        ranges("low as high", x, 5, 5);
    }

    @Says(promise = 6, words = "A new entry (its range may be wider than the cell's first one, or lie outside of it)")
    static void setOutsideOfTheFirstRange() {
        RangeSheet x = sheet(0, 9, 0, 9);
        due("wider", x.set(0, -100, 100), 0);
        ranges("wider", x, 0, 9, 0, 9);
        due("outside", x.set(1, 10, 11), 1);
        contradicts("outside", x);
    }

    @Says(promise = 6, words = "IllegalStateException when there are twelve")
    static void entryOfThirteen() {
        RangeSheet x = sheet(0, 9, 0, 9);
        for (int e = 0; e < 11; e++) {
            x.set(0, 0, 9);
        }
        due("the twelfth", x.set(0, 3, 9), 11);
        throwsOnly("the thirteenth", STATE, () -> x.set(0, 5, 9));
        throwsOnly("the thirteenth, of another cell", STATE, () -> x.set(1, 5, 9));
        ranges("there are twelve", x, 3, 9, 0, 9);
        due("no thirteenth", x.force(12, false), false);
    }

    @Says(promise = 6, words = "IllegalStateException when there are twelve (be they in force or withdrawn)")
    static void entryOfThirteenThoughSomeAreWithdrawn() {
        RangeSheet x = sheet(0, 9);
        for (int e = 0; e < 12; e++) {
            x.set(0, 0, 9);
            x.force(e, false);
        }
        throwsOnly("the thirteenth", STATE, () -> x.set(0, 0, 9));
    }

    @Says(promise = 6, words = "IllegalArgumentException when ..; IllegalStateException when there are twelve (in this order)")
    static void wrongEntryOfThirteen() {
        RangeSheet x = sheet(0, 9);
        for (int e = 0; e < 12; e++) {
            x.set(0, 0, 9);
        }
        throwsOnly("no such cell", ARGUMENT, () -> x.set(1, 0, 9));
        throwsOnly("low", ARGUMENT, () -> x.set(0, -101, 9));
        throwsOnly("high", ARGUMENT, () -> x.set(0, 0, 101));
        throwsOnly("low above high", ARGUMENT, () -> x.set(0, 9, 0));
    }

    @Says(promise = 6, words = "A new entry (a refused one is none)")
    static void aRefusedEntryIsNone() {
        RangeSheet x = sheet(0, 9);
        x.narrow();
        x.solve(9);
        String before = look(x);
        throwsOnly("set(0, 5, 101)", ARGUMENT, () -> x.set(0, 5, 101));
        throwsOnly("set(0, 5, 4)", ARGUMENT, () -> x.set(0, 5, 4));
        throwsOnly("set(1, 5, 5)", ARGUMENT, () -> x.set(1, 5, 5));
        due("what is told", look(x), before);
        due("force(0, false)", x.force(0, false), false);
        ranges("no entry", x, 0, 9);
        due("the next number", x.set(0, 2, 3), 0);
        ranges("one entry", x, 2, 3);
    }

    @Says(promise = 6, words = "A new entry (what is told stays until it is narrowed or searched)")
    static void setTellsNothingAnew() {
        RangeSheet x = sheet(0, 9);
        x.narrow();
        x.solve(300);
        String before = look(x);
        x.set(0, 5, 5);
        due("one more entry", look(x), before);
        ranges("narrowed", x, 5, 5);
    }

    // Promise 7: force

    @Says(promise = 7, words = "An entry is withdrawn, or in force again: true if that was otherwise before")
    static void forceTellsWhetherItWasOtherwise() {
        RangeSheet x = sheet(0, 9);
        x.set(0, 2, 4);
        x.set(0, 3, 6);
        due("in force, though it was", x.force(0, true), false);
        due("withdrawn", x.force(0, false), true);
        due("withdrawn, though it was", x.force(0, false), false);
        due("the other one is in force still", x.force(1, true), false);
        due("in force again", x.force(0, true), true);
        due("in force, though it was", x.force(0, true), false);
    }

    @Says(promise = 7, words = "False when there is no such entry")
    static void forceOfNoEntry() {
        RangeSheet x = sheet(0, 9);
        x.set(0, 2, 9);
        x.set(0, 0, 6);
        for (int e : noneOf(2)) {
            due("force(" + e + ", false)", x.force(e, false), false);
            due("force(" + e + ", true)", x.force(e, true), false);
            due("force(" + e + ", false)", x.force(e, false), false);
        }
        ranges("both are in force", x, 2, 6);
        due("the next one", x.set(0, 4, 9), 2);
        ranges("it is in force, too", x, 4, 6);
    }

    @Says(promise = 7, words = "An entry is withdrawn, or in force again (the first and the last of twelve)")
    static void forceOfTheFirstAndTheLast() {
        RangeSheet x = sheet(0, 9);
        x.set(0, 2, 9);
        for (int e = 1; e < 11; e++) {
            x.set(0, 0, 9);
        }
        x.set(0, 4, 9);
        ranges("all", x, 4, 9);
        due("the last", x.force(11, false), true);
        ranges("without the last", x, 2, 9);
        due("the first", x.force(0, false), true);
        ranges("without both", x, 0, 9);
        due("the last", x.force(11, true), true);
        ranges("with the last", x, 4, 9);
        due("none behind the last", x.force(12, false), false);
    }

    @Says(promise = 7, words = "An entry is withdrawn (no narrowing and no search is with it then)")
    static void nothingIsNarrowedWithAWithdrawnEntry() {
        RangeSheet x = sheet(0, 9);
        x.set(0, 0, 3);
        x.set(0, 5, 9);
        contradicts("both", x);
        due("conflict of both", x.conflict(), 0b11);
        due("because of both", x.because(0, true), NONE);
        due("solve with both", x.solve(300), 0);
        due("least with both", x.least(0, 300), NONE);
        due("greatest with both", x.greatest(0, 300), NONE);
        x.force(0, false);
        ranges("one", x, 5, 9);
        due("conflict of one", x.conflict(), NONE);
        due("because of one", x.because(0, false), 0b10);
        due("solve with one", x.solve(300), 1);
        due("least with one", x.least(0, 300), 5);
        due("greatest with one", x.greatest(0, 300), 9);
        x.force(0, true);
        contradicts("both again", x);
    }

    @Says(promise = 7, words = "An entry is withdrawn, or in force again (what is told stays until it is narrowed or searched)")
    static void forceTellsNothingAnew() {
        RangeSheet x = sheet(0, 9);
        x.set(0, 5, 7);
        x.narrow();
        x.solve(300);
        String before = look(x);
        x.force(0, false);
        due("withdrawn", look(x), before);
        x.force(0, true);
        due("in force again", look(x), before);
    }
}
