/** The edges of promises 13 to 18: searches, their limits, and the setting that they leave. */
final class EdgesOfSearching extends Checks {

    /**
     * A sheet without a setting, which no narrowing can tell: three cells of two values, each two different. Its
     * search makes three steps for each value of cell 0: one for that value and two for those of cell 1.
     */
    private static RangeSheet hopeless(int values) {
        RangeSheet x = sheet(0, values - 1, 0, 1, 0, 1, 0, 1);
        x.relate(DIFFERENT, 0b0110, 0, 0);
        x.relate(DIFFERENT, 0b1100, 0, 0);
        x.relate(DIFFERENT, 0b1010, 0, 0);
        return x;
    }

    /**
     * The same, but that cell 3 can have a third value, 1, if cell 0 has its last one, 99: 297 steps lead to
     * nothing, then one each for cells 0, 1 and 6 to what is found.
     */
    private static RangeSheet hopelessUntilTheLast() {
        RangeSheet x = sheet(0, 99, -1, 0, -1, 0, -1, 1, 99, 99, -99, 99, 5, 6);
        x.relate(DIFFERENT, 0b0110, 0, 0);
        x.relate(DIFFERENT, 0b1100, 0, 0);
        x.relate(DIFFERENT, 0b1010, 0, 0);
        x.relate(PRODUCT, 3, 4, 5);
        x.relate(AT_MOST, 5, 0, 0);
        return x;
    }

    /** A sheet whose cell 0 is 0 .. 9, as narrowing tells, but can have no other value than 4. */
    private static RangeSheet onlyTheMiddle() {
        RangeSheet x = sheet(0, 9, 0, 1, 0, 1);
        x.row(0, 0, 0);
        x.row(0, 4, 0);
        x.row(0, 9, 1);
        x.row(1, 0, 1);
        x.row(1, 4, 0);
        x.row(1, 9, 0);
        x.relate(TABLE, 0, 1, 0);
        x.relate(TABLE, 0, 2, 1);
        x.relate(AT_MOST, 1, 2, 0);
        x.relate(AT_MOST, 2, 1, 0);
        return x;
    }

    // Promise 13: solve

    @Says(promise = 13, words = "IllegalArgumentException when limit is not 0 .. 300 (too small)")
    static void solveWithALimitTooSmall() {
        RangeSheet x = sheet(4, 4);
        for (int limit : new int[] {-1, -2, -300, -1000, MIN}) {
            throwsOnly("solve(" + limit + ")", ARGUMENT, () -> x.solve(limit));
        }
        due("value", x.value(0), NONE);
        due("solve(0)", x.solve(0), 1);
    }

    @Says(promise = 13, words = "IllegalArgumentException when limit is not 0 .. 300 (too large)")
    static void solveWithALimitTooLarge() {
        RangeSheet x = sheet(4, 4);
        for (int limit : new int[] {301, 302, 1000, MAX}) {
            throwsOnly("solve(" + limit + ")", ARGUMENT, () -> x.solve(limit));
        }
        due("value", x.value(0), NONE);
        due("solve(300)", x.solve(300), 1);
    }

    @Says(promise = 13, words = "IllegalArgumentException when limit is not 0 .. 300 (without cells, or with a contradiction, too)")
    static void solveWithAWrongLimitWhereNothingIsSearched() {
        RangeSheet none = new RangeSheet();
        throwsOnly("without cells: -1", ARGUMENT, () -> none.solve(-1));
        throwsOnly("without cells: 301", ARGUMENT, () -> none.solve(301));
        RangeSheet x = related(AT_MOST, 0, 0, 1, 0, 9);
        throwsOnly("contradiction: -1", ARGUMENT, () -> x.solve(-1));
        throwsOnly("contradiction: 301", ARGUMENT, () -> x.solve(301));
    }

    @Says(promise = 13, words = "Searches (a refused search leaves all as it was)")
    static void aRefusedSolveIsNone() {
        RangeSheet x = sheet(4, 9, 4, 9);
        x.narrow();
        x.solve(300);
        String before = look(x);
        x.set(0, 6, 6);
        throwsOnly("solve(301)", ARGUMENT, () -> x.solve(301));
        throwsOnly("solve(-1)", ARGUMENT, () -> x.solve(-1));
        due("what is told", look(x), before);
    }

    @Says(promise = 13, words = "Without cells they are found at once")
    static void solveWithoutCells() {
        RangeSheet x = new RangeSheet();
        due("solve(0)", x.solve(0), 1);
        due("steps", x.steps(), 0);
        due("solve(300)", x.solve(300), 1);
        due("steps", x.steps(), 0);
        due("value(0)", x.value(0), NONE);
        x.cell(3, 3);
        due("value of a newer cell", x.value(0), NONE);
    }

    @Says(promise = 13, words = "If all have one value, they are found (without a step)")
    static void solveWithoutASearch() {
        RangeSheet x = related(SUM, 0, 1, 2, 3, 3, -4, -4, -100, 100);
        due("solve(0)", x.solve(0), 1);
        due("steps", x.steps(), 0);
        values("setting", x, 3, -4, -1);
    }

    @Says(promise = 13, words = "0 when there are none (or narrowing ends with a contradiction)")
    static void solveWithAContradiction() {
        RangeSheet x = sheet(0, 9, 0, 9);
        x.solve(300);
        x.set(0, 10, 11);
        due("an entry: solve(0)", x.solve(0), 0);
        due("an entry: steps", x.steps(), 0);
        due("an entry: solve(300)", x.solve(300), 0);
        due("an entry: steps", x.steps(), 0);
        RangeSheet y = related(AT_MOST, 0, 1, 10, 0, 9, 0, 9);
        due("a relation: solve(0)", y.solve(0), 0);
        due("a relation: solve(300)", y.solve(300), 0);
        due("a relation: steps", y.steps(), 0);
    }

    @Says(promise = 13, words = "0 when there are none (all is done)")
    static void solveWhereThereIsNone() {
        for (int n : new int[] {2, 3, 50}) {
            RangeSheet x = hopeless(n);
            due("narrowing tells nothing", x.narrow(), true);
            due("solve", x.solve(300), 0);
            due("steps", x.steps(), 3 * n);
            due("no setting", x.value(0), NONE);
        }
        RangeSheet one = hopeless(1);
        due("cell 0 has one value: solve", one.solve(300), 0);
        due("cell 0 has one value: steps", one.steps(), 2);
    }

    @Says(promise = 13, words = "NONE at the limit (of 0)")
    static void solveWithALimitOf0() {
        RangeSheet x = sheet(0, 1);
        due("solve(0)", x.solve(0), NONE);
        due("steps", x.steps(), 0);
        due("no setting", x.value(0), NONE);
        due("solve(1)", x.solve(1), 1);
        due("steps", x.steps(), 1);
        due("setting", x.value(0), 0);
    }

    @Says(promise = 13, words = "The search ends .. when there would be more steps than a limit (found with the last step)")
    static void solveThatFindsWithTheLastStep() {
        RangeSheet x = sheet(0, 9, 0, 9, 0, 9);
        for (int limit = 0; limit < 3; limit++) {
            due("limit " + limit, x.solve(limit), NONE);
            due("limit " + limit + ": steps", x.steps(), limit);
            due("limit " + limit + ": no setting", x.value(0), NONE);
        }
        due("limit 3", x.solve(3), 1);
        due("limit 3: steps", x.steps(), 3);
        due("limit 4", x.solve(4), 1);
        due("limit 4: steps", x.steps(), 3);
    }

    @Says(promise = 13, words = "The search ends .. when there would be more steps than a limit (all is done with the last step)")
    static void solveThatIsDoneWithTheLastStep() {
        RangeSheet x = hopeless(3);
        for (int limit = 0; limit < 9; limit++) {
            due("limit " + limit, x.solve(limit), NONE);
            due("limit " + limit + ": steps", x.steps(), limit);
        }
        due("limit 9", x.solve(9), 0);
        due("limit 9: steps", x.steps(), 9);
        due("limit 10", x.solve(10), 0);
        due("limit 10: steps", x.steps(), 9);
    }

    @Says(promise = 13, words = "with a limit of steps (the greatest limit, 300: all is done)")
    static void solveThatIsDoneWithStep300() {
        RangeSheet x = hopeless(100);
        due("limit 300", x.solve(300), 0);
        due("limit 300: steps", x.steps(), 300);
        due("limit 299", x.solve(299), NONE);
        due("limit 299: steps", x.steps(), 299);
        RangeSheet more = hopeless(101);
        due("303 steps", more.solve(300), NONE);
        due("303 steps: steps", more.steps(), 300);
    }

    @Says(promise = 13, words = "with a limit of steps (the greatest limit, 300: they are found)")
    static void solveThatFindsWithStep300() {
        RangeSheet x = hopelessUntilTheLast();
        due("limit 299", x.solve(299), NONE);
        due("limit 299: steps", x.steps(), 299);
        due("limit 299: no setting", x.value(0), NONE);
        due("limit 300", x.solve(300), 1);
        due("limit 300: steps", x.steps(), 300);
        values("limit 300", x, 99, -1, 0, 1, 99, 99, 5);
    }

    @Says(promise = 13, words = "cells in the order of their numbers, up")
    static void solveGoesUpInTheOrderOfNumbers() {
        RangeSheet x = sheet(-2, 3, -2, 3, -2, 3);
        due("solve", x.solve(300), 1);
        values("the low ones", x, -2, -2, -2);
        due("steps", x.steps(), 3);
        x.relate(DIFFERENT, 0b111, 0, 0);
        x.solve(300);
        values("different ones", x, -2, -1, 0);
        due("steps", x.steps(), 3);
        RangeSheet sum = related(SUM, 0, 1, 2, 0, 9, 0, 9, 9, 9);
        sum.solve(300);
        values("the first cell is the least", sum, 0, 9, 9);
        due("steps", sum.steps(), 1);
    }

    @Says(promise = 13, words = "for the first cell in the order that has more than one value")
    static void solveLeavesOutCellsOfOneValue() {
        RangeSheet x = sheet(5, 5, 0, 9, 7, 7, 0, 9);
        due("solve(1)", x.solve(1), NONE);
        due("solve(2)", x.solve(2), 1);
        due("steps", x.steps(), 2);
        values("setting", x, 5, 0, 7, 0);
    }

    @Says(promise = 13, words = "without a contradiction it is a node, which is searched before the next value is taken")
    static void solveSearchesANodeBeforeTheNextValue() {
        RangeSheet x = sheet(0, 9, 0, 9);
        due("a step for each cell alone", x.solve(2), 1);
        due("steps", x.steps(), 2);
        values("setting", x, 0, 0);
        RangeSheet y = hopeless(3);
        y.solve(4);
        due("the second value of cell 0 is the fourth step", y.steps(), 4);
        y.hold(2, false);
        due("the first value of cell 0 will do", y.solve(2), 1);
        values("setting", y, 0, 0, 1, 0);
    }

    @Says(promise = 13, words = "for each value in its range, from the low one up (over values that lead to nothing)")
    static void solveStepsOverValuesThatLeadToNothing() {
        RangeSheet x = onlyTheMiddle();
        ranges("narrowing tells nothing", x, 0, 9, 0, 1, 0, 1);
        due("0 to 3 lead to nothing", x.solve(4), NONE);
        due("then comes 4", x.solve(5), 1);
        due("steps", x.steps(), 5);
        values("setting", x, 4, 0, 0);
    }

    @Says(promise = 13, words = "the ranges with just that value for it are narrowed by relations; this is a STEP")
    static void aStepNarrowsByAllRelations() {
        RangeSheet x = sheetOf(10, 0, 1);
        for (int k = 8; k >= 0; k--) {
            x.relate(DIFFERENT, 3 << k, 0, 0);
        }
        due("one step tells all cells", x.solve(1), 1);
        due("steps", x.steps(), 1);
        values("setting", x, 0, 1, 0, 1, 0, 1, 0, 1, 0, 1);
        due("from the last cell down", x.greatest(9, 1), 1);
        due("from the last cell up", x.least(9, 1), 0);
        values("setting", x, 1, 0, 1, 0, 1, 0, 1, 0, 1, 0);
    }

    @Says(promise = 13, words = "with all entries in force")
    static void solveWithEntriesInForce() {
        RangeSheet x = sheet(0, 9, 0, 9);
        x.set(0, 4, 9);
        x.set(1, 6, 9);
        x.solve(300);
        values("both", x, 4, 6);
        x.force(0, false);
        x.solve(300);
        values("one", x, 0, 6);
        x.force(1, false);
        x.solve(300);
        values("none", x, 0, 0);
    }

    @Says(promise = 13, words = "1 when ranges are found (these are the SETTING then)")
    static void solveMakesTheSetting() {
        RangeSheet x = sheet(-100, 100, 100, 100, -100, -100);
        due("solve", x.solve(1), 1);
        values("the outermost values", x, -100, 100, -100);
    }

    @Says(promise = 13, words = "A SEARCH has an order of all cells (all ten of them open)")
    static void solveOfTenOpenCells() {
        RangeSheet x = sheetOf(10, 0, 1);
        due("limit 9", x.solve(9), NONE);
        due("limit 10", x.solve(10), 1);
        due("steps", x.steps(), 10);
        values("the low ones", x, 0, 0, 0, 0, 0, 0, 0, 0, 0, 0);
    }

    // Promise 14: least

    @Says(promise = 14, words = "IllegalArgumentException when there is no such cell")
    static void leastOfNoCell() {
        RangeSheet x = sheetOf(3, 4, 4);
        for (int cell : noneOf(3)) {
            throwsOnly("least(" + cell + ", 0)", ARGUMENT, () -> x.least(cell, 0));
            throwsOnly("least(" + cell + ", 300)", ARGUMENT, () -> x.least(cell, 300));
        }
        due("the last", x.least(2, 0), 4);
        RangeSheet ten = sheetOf(10, 4, 4);
        throwsOnly("least(10, 0)", ARGUMENT, () -> ten.least(10, 0));
        due("the last of ten", ten.least(9, 0), 4);
    }

    @Says(promise = 14, words = "IllegalArgumentException when .. limit is not 0 .. 300")
    static void leastWithAWrongLimit() {
        RangeSheet x = sheet(4, 4);
        for (int limit : new int[] {-1, -2, MIN, 301, 302, MAX}) {
            throwsOnly("least(0, " + limit + ")", ARGUMENT, () -> x.least(0, limit));
            throwsOnly("least(1, " + limit + ")", ARGUMENT, () -> x.least(1, limit));
        }
        due("least(0, 0)", x.least(0, 0), 4);
        due("least(0, 300)", x.least(0, 300), 4);
        x.set(0, 5, 5);
        throwsOnly("least(0, 301), with a contradiction", ARGUMENT, () -> x.least(0, 301));
    }

    @Says(promise = 14, words = "Searches (a refused search leaves all as it was)")
    static void aRefusedLeastIsNone() {
        RangeSheet x = sheet(4, 9, 4, 9);
        x.narrow();
        x.solve(300);
        String before = look(x);
        x.set(0, 6, 6);
        throwsOnly("least(0, 301)", ARGUMENT, () -> x.least(0, 301));
        throwsOnly("least(0, -1)", ARGUMENT, () -> x.least(0, -1));
        throwsOnly("least(2, 9)", ARGUMENT, () -> x.least(2, 9));
        due("what is told", look(x), before);
    }

    @Says(promise = 14, words = "this cell is the first one in the order")
    static void leastTakesThisCellFirst() {
        RangeSheet x = related(SUM, 0, 1, 2, 0, 9, 0, 9, 9, 9);
        due("least of a", x.least(0, 300), 0);
        values("least of a", x, 0, 9, 9);
        due("least of b", x.least(1, 300), 0);
        values("least of b", x, 9, 0, 9);
        due("least of c", x.least(2, 300), 9);
        values("least of c", x, 0, 9, 9);
        due("steps", x.steps(), 1);
    }

    @Says(promise = 14, words = "cells in the order of their numbers (behind this one)")
    static void leastTakesTheOthersInTheirOrder() {
        RangeSheet x = sheetOf(4, 0, 3);
        x.relate(DIFFERENT, 0b1111, 0, 0);
        x.least(0, 300);
        values("least of 0", x, 0, 1, 2, 3);
        x.least(1, 300);
        values("least of 1", x, 1, 0, 2, 3);
        x.least(2, 300);
        values("least of 2", x, 1, 2, 0, 3);
        x.least(3, 300);
        values("least of 3", x, 1, 2, 3, 0);
        due("steps", x.steps(), 3);
    }

    @Says(promise = 14, words = "the value it has in what is found (which is the setting then)")
    static void leastOfAllSettings() {
        RangeSheet x = related(PRODUCT, 0, 0, 1, -100, 100, -100, 100);
        due("least of a root", x.least(0, 300), -10);
        values("its square", x, -10, 100);
        due("least of a square", x.least(1, 300), 0);
        values("its root", x, 0, 0);
        x.set(1, 30, 70);
        due("a root of 36 to 64", x.least(0, 300), -8);
        due("of such a square", x.least(1, 300), 36);
        values("its root", x, -6, 36);
        RangeSheet low = sheet(-100, 100);
        due("the least value that there is", low.least(0, 300), -100);
        RangeSheet minus = sheet(-1, 0);
        due("-1", minus.least(0, 300), -1);
    }

    @Says(promise = 14, words = "the value it has in what is found (not just the low that it is narrowed to)")
    static void leastIsNotTheLow() {
        RangeSheet x = hopelessUntilTheLast();
        x.narrow();
        due("the low", x.low(0), 0);
        due("the least", x.least(0, 300), 99);
        due("steps", x.steps(), 300);
        RangeSheet y = onlyTheMiddle();
        due("the least in the middle", y.least(0, 300), 4);
        due("steps from the low one up", y.steps(), 5);
        due("at the limit before", y.least(0, 4), NONE);
    }

    @Says(promise = 14, words = "NONE at the limit")
    static void leastAtTheLimit() {
        RangeSheet x = sheet(0, 9, 0, 9);
        due("limit 0", x.least(1, 0), NONE);
        due("limit 0: steps", x.steps(), 0);
        due("limit 1, though this cell has a value", x.least(1, 1), NONE);
        due("limit 1: steps", x.steps(), 1);
        due("limit 1: no setting", x.value(1), NONE);
        due("limit 2", x.least(1, 2), 0);
        due("limit 2: steps", x.steps(), 2);
        RangeSheet until = hopelessUntilTheLast();
        due("limit 299", until.least(0, 299), NONE);
        due("limit 299: steps", until.steps(), 299);
    }

    @Says(promise = 14, words = "NONE .. when there is nothing")
    static void leastOfNothing() {
        RangeSheet x = hopeless(5);
        due("all is done", x.least(0, 300), NONE);
        due("all is done: steps", x.steps(), 15);
        due("all is done, from another cell", x.least(3, 300), NONE);
        due("all is done, from another cell: steps", x.steps(), 2);
        x.set(0, 50, 60);
        due("a contradiction", x.least(0, 300), NONE);
        due("a contradiction: steps", x.steps(), 0);
        due("no setting", x.value(0), NONE);
    }

    @Says(promise = 14, words = "Searches likewise (without a step, if all have one value)")
    static void leastWithoutASearch() {
        RangeSheet x = sheet(0, 9, 0, 9);
        x.set(0, 3, 3);
        x.set(1, 4, 4);
        due("least(1, 0)", x.least(1, 0), 4);
        due("steps", x.steps(), 0);
        values("setting", x, 3, 4);
        x.force(0, false);
        due("a withdrawn entry", x.least(0, 1), 0);
    }

    // Promise 15: greatest

    @Says(promise = 15, words = "The same (IllegalArgumentException when there is no such cell)")
    static void greatestOfNoCell() {
        RangeSheet x = sheetOf(3, 4, 4);
        for (int cell : noneOf(3)) {
            throwsOnly("greatest(" + cell + ", 0)", ARGUMENT, () -> x.greatest(cell, 0));
            throwsOnly("greatest(" + cell + ", 300)", ARGUMENT, () -> x.greatest(cell, 300));
        }
        due("the last", x.greatest(2, 0), 4);
        RangeSheet ten = sheetOf(10, 4, 4);
        throwsOnly("greatest(10, 0)", ARGUMENT, () -> ten.greatest(10, 0));
        due("the last of ten", ten.greatest(9, 0), 4);
    }

    @Says(promise = 15, words = "The same (IllegalArgumentException when limit is not 0 .. 300)")
    static void greatestWithAWrongLimit() {
        RangeSheet x = sheet(4, 4);
        for (int limit : new int[] {-1, -2, MIN, 301, 302, MAX}) {
            throwsOnly("greatest(0, " + limit + ")", ARGUMENT, () -> x.greatest(0, limit));
            throwsOnly("greatest(1, " + limit + ")", ARGUMENT, () -> x.greatest(1, limit));
        }
        due("greatest(0, 0)", x.greatest(0, 0), 4);
        due("greatest(0, 300)", x.greatest(0, 300), 4);
        x.set(0, 5, 5);
        throwsOnly("greatest(0, 301), with a contradiction", ARGUMENT, () -> x.greatest(0, 301));
    }

    @Says(promise = 15, words = "The same (a refused search leaves all as it was)")
    static void aRefusedGreatestIsNone() {
        RangeSheet x = sheet(4, 9, 4, 9);
        x.narrow();
        x.solve(300);
        String before = look(x);
        x.set(0, 6, 6);
        throwsOnly("greatest(0, 301)", ARGUMENT, () -> x.greatest(0, 301));
        throwsOnly("greatest(0, -1)", ARGUMENT, () -> x.greatest(0, -1));
        throwsOnly("greatest(2, 9)", ARGUMENT, () -> x.greatest(2, 9));
        due("what is told", look(x), before);
    }

    @Says(promise = 15, words = "downwards (if that is the first cell in the order .., from the high one down)")
    static void greatestGoesDownInThisCell() {
        RangeSheet x = related(SUM, 0, 1, 2, 0, 9, 0, 9, 0, 9);
        due("greatest of a", x.greatest(0, 300), 9);
        values("greatest of a", x, 9, 0, 9);
        due("steps", x.steps(), 1);
        due("greatest of b", x.greatest(1, 300), 9);
        values("greatest of b", x, 0, 9, 9);
        due("greatest of c", x.greatest(2, 300), 9);
        values("greatest of c: a goes up", x, 0, 9, 9);
        due("steps", x.steps(), 2);
    }

    @Says(promise = 15, words = "a direction for the first one of them (the others go up)")
    static void greatestGoesUpInTheOthers() {
        RangeSheet x = sheet(1, 3, 1, 3, 1, 3);
        x.greatest(0, 300);
        values("greatest of 0", x, 3, 1, 1);
        x.greatest(1, 300);
        values("greatest of 1", x, 1, 3, 1);
        x.greatest(2, 300);
        values("greatest of 2", x, 1, 1, 3);
        due("steps", x.steps(), 3);
    }

    @Says(promise = 15, words = "a direction for the first one of them (which has but one value)")
    static void greatestOfACellOfOneValue() {
        RangeSheet x = sheet(1, 3, 2, 2, 1, 3);
        due("greatest", x.greatest(1, 300), 2);
        values("the others go up", x, 1, 2, 1);
        due("steps", x.steps(), 2);
    }

    @Says(promise = 15, words = "The same (behind this cell the others in the order of their numbers)")
    static void greatestTakesTheOthersInTheirOrder() {
        RangeSheet x = sheetOf(4, 0, 3);
        x.relate(DIFFERENT, 0b1111, 0, 0);
        x.greatest(0, 300);
        values("greatest of 0", x, 3, 0, 1, 2);
        x.greatest(1, 300);
        values("greatest of 1", x, 0, 3, 1, 2);
        x.greatest(2, 300);
        values("greatest of 2", x, 0, 1, 3, 2);
        x.greatest(3, 300);
        values("greatest of 3", x, 0, 1, 2, 3);
    }

    @Says(promise = 15, words = "The same (the value it has in what is found, which is the setting then)")
    static void greatestOfAllSettings() {
        RangeSheet x = related(PRODUCT, 0, 0, 1, -100, 100, -100, 100);
        due("greatest root", x.greatest(0, 300), 10);
        values("its square", x, 10, 100);
        due("greatest square", x.greatest(1, 300), 100);
        values("its root, from the low one up", x, -10, 100);
        x.set(1, 30, 70);
        due("a root of 36 to 64", x.greatest(0, 300), 8);
        due("such a square", x.greatest(1, 300), 64);
        RangeSheet high = sheet(-100, 100);
        due("the greatest value that there is", high.greatest(0, 300), 100);
        due("one step", high.steps(), 1);
    }

    @Says(promise = 15, words = "The same (the value it has in what is found, not just the high that it is narrowed to)")
    static void greatestIsNotTheHigh() {
        RangeSheet x = onlyTheMiddle();
        x.narrow();
        due("the high", x.high(0), 9);
        due("the greatest", x.greatest(0, 300), 4);
        due("steps from the high one down", x.steps(), 6);
        due("at the limit before", x.greatest(0, 5), NONE);
    }

    @Says(promise = 15, words = "The same (NONE at the limit)")
    static void greatestAtTheLimit() {
        RangeSheet x = sheet(0, 9, 0, 9);
        due("limit 0", x.greatest(1, 0), NONE);
        due("limit 0: steps", x.steps(), 0);
        due("limit 1, though this cell has a value", x.greatest(1, 1), NONE);
        due("limit 1: steps", x.steps(), 1);
        due("limit 1: no setting", x.value(1), NONE);
        due("limit 2", x.greatest(1, 2), 9);
        due("limit 2: steps", x.steps(), 2);
        RangeSheet until = hopelessUntilTheLast();
        due("from the last one down", until.greatest(0, 3), 99);
        due("from the last one down: steps", until.steps(), 3);
        RangeSheet more = hopeless(101);
        due("limit 300", more.greatest(0, 300), NONE);
        due("limit 300: steps", more.steps(), 300);
    }

    @Says(promise = 15, words = "The same (NONE when there is nothing)")
    static void greatestOfNothing() {
        RangeSheet x = hopeless(5);
        due("all is done", x.greatest(0, 15), NONE);
        due("all is done: steps", x.steps(), 15);
        due("all is done, from another cell", x.greatest(3, 300), NONE);
        due("all is done, from another cell: steps", x.steps(), 2);
        x.set(0, 50, 60);
        due("a contradiction", x.greatest(0, 300), NONE);
        due("a contradiction: steps", x.steps(), 0);
        due("no setting", x.value(0), NONE);
    }

    // Promise 16: steps

    @Says(promise = 16, words = "0 before")
    static void stepsBeforeASearch() {
        RangeSheet x = new RangeSheet();
        due("new", x.steps(), 0);
        x.cell(0, 9);
        x.relate(AT_MOST, 0, 0, 0);
        x.set(0, 1, 8);
        x.row(0, 1, 1);
        x.narrow();
        x.conflict();
        x.because(0, true);
        throwsOnly("solve(301)", ARGUMENT, () -> x.solve(301));
        due("no search was made", x.steps(), 0);
    }

    @Says(promise = 16, words = "How many steps the latest search made")
    static void stepsOfTheLatestSearch() {
        RangeSheet x = sheet(0, 9, 0, 9, 0, 9);
        x.solve(300);
        due("solve", x.steps(), 3);
        x.set(0, 5, 5);
        due("stay", x.steps(), 3);
        x.least(1, 300);
        due("least", x.steps(), 2);
        x.set(1, 5, 5);
        x.greatest(2, 300);
        due("greatest", x.steps(), 1);
        x.set(2, 5, 5);
        x.solve(300);
        due("found at once", x.steps(), 0);
        x.force(0, false);
        x.solve(300);
        due("one step", x.steps(), 1);
        x.set(1, 6, 6);
        x.solve(300);
        due("a contradiction at once", x.steps(), 0);
    }

    @Says(promise = 16, words = "How many steps the latest search made (those that lead to a contradiction, too)")
    static void stepsThatLeadToNothing() {
        RangeSheet x = hopeless(7);
        x.solve(300);
        due("solve", x.steps(), 21);
        x.least(0, 300);
        due("least", x.steps(), 21);
        x.greatest(0, 300);
        due("greatest", x.steps(), 21);
        x.greatest(1, 300);
        due("from another cell", x.steps(), 2);
    }

    @Says(promise = 16, words = "The limit, when it ended by that")
    static void stepsAtTheLimit() {
        RangeSheet x = hopeless(101);
        for (int limit : new int[] {0, 1, 2, 3, 4, 100, 299, 300}) {
            due("solve(" + limit + ")", x.solve(limit), NONE);
            due("solve(" + limit + "): steps", x.steps(), limit);
            due("least(0, " + limit + ")", x.least(0, limit), NONE);
            due("least(0, " + limit + "): steps", x.steps(), limit);
            due("greatest(0, " + limit + ")", x.greatest(0, limit), NONE);
            due("greatest(0, " + limit + "): steps", x.steps(), limit);
        }
    }

    @Says(promise = 16, words = "the latest search (no other call changes it, nor does a refused one)")
    static void stepsStay() {
        RangeSheet x = sheet(0, 9, 0, 9);
        x.solve(300);
        x.narrow();
        x.conflict();
        x.because(0, true);
        x.cell(0, 9);
        x.set(0, 3, 3);
        x.relate(DIFFERENT, 0b11, 0, 0);
        x.hold(0, false);
        x.force(0, false);
        throwsOnly("solve(-1)", ARGUMENT, () -> x.solve(-1));
        throwsOnly("least(3, 0)", ARGUMENT, () -> x.least(3, 0));
        throwsOnly("greatest(0, 301)", ARGUMENT, () -> x.greatest(0, 301));
        due("steps", x.steps(), 2);
    }

    // Promise 17: value

    @Says(promise = 17, words = "NONE when there is no such cell")
    static void valueOfNoCell() {
        RangeSheet x = sheetOf(3, 4, 4);
        x.solve(0);
        due("the last", x.value(2), 4);
        for (int cell : noneOf(3)) {
            due("value(" + cell + ")", x.value(cell), NONE);
        }
        RangeSheet ten = sheetOf(10, 4, 4);
        ten.solve(0);
        due("the last of ten", ten.value(9), 4);
        due("value(10)", ten.value(10), NONE);
    }

    @Says(promise = 17, words = "NONE when .. no setting was found since it was made (none at all)")
    static void valueBeforeASetting() {
        RangeSheet x = sheet(4, 4, 0, 9);
        due("new", x.value(0), NONE);
        x.narrow();
        x.conflict();
        x.because(0, true);
        due("narrowed alone", x.value(0), NONE);
        x.solve(0);
        due("ended at the limit", x.value(0), NONE);
        due("ended at the limit", x.value(1), NONE);
        x.set(0, 5, 5);
        x.solve(300);
        due("ended with nothing", x.value(0), NONE);
        x.force(0, false);
        x.solve(300);
        values("found", x, 4, 0);
    }

    @Says(promise = 17, words = "NONE when .. no setting was found since it was made (of a newer cell)")
    static void valueOfANewerCell() {
        RangeSheet x = sheet(4, 9);
        x.solve(300);
        x.cell(7, 7);
        due("the newer cell", x.value(1), NONE);
        due("the older cell", x.value(0), 4);
        x.narrow();
        due("the newer cell, narrowed", x.value(1), NONE);
        due("ended at the limit", x.solve(0), NONE);
        due("the newer cell, ended at the limit", x.value(1), NONE);
        due("the older cell, ended at the limit", x.value(0), 4);
        x.solve(1);
        values("found", x, 4, 7);
    }

    @Says(promise = 17, words = "A search that finds nothing leaves the setting that there was (all is done)")
    static void valueAfterASearchThatFindsNothing() {
        RangeSheet x = hopeless(3);
        x.hold(2, false);
        due("found", x.solve(300), 1);
        values("found", x, 0, 0, 1, 0);
        x.hold(2, true);
        x.set(0, 1, 2);
        due("solve", x.solve(300), 0);
        values("after solve", x, 0, 0, 1, 0);
        due("least", x.least(1, 300), NONE);
        values("after least", x, 0, 0, 1, 0);
        due("greatest", x.greatest(2, 300), NONE);
        values("after greatest", x, 0, 0, 1, 0);
        x.set(0, 50, 60);
        due("a contradiction at once", x.solve(300), 0);
        values("after a contradiction", x, 0, 0, 1, 0);
    }

    @Says(promise = 17, words = "A search that finds nothing leaves the setting that there was (at the limit)")
    static void valueAfterASearchThatEndsAtTheLimit() {
        RangeSheet x = sheet(0, 9, 0, 9);
        x.greatest(0, 300);
        values("found", x, 9, 0);
        x.set(1, 3, 8);
        for (int limit = 0; limit < 2; limit++) {
            due("solve", x.solve(limit), NONE);
            due("least", x.least(1, limit), NONE);
            due("greatest", x.greatest(1, limit), NONE);
            values("limit " + limit, x, 9, 0);
        }
        x.greatest(1, 2);
        values("limit 2", x, 0, 8);
    }

    @Says(promise = 17, words = "A cell's value in the setting (which no other call changes)")
    static void valueStays() {
        RangeSheet x = sheet(4, 9, 4, 9);
        x.solve(300);
        x.set(0, 8, 9);
        x.relate(DIFFERENT, 0b11, 0, 0);
        x.narrow();
        x.conflict();
        x.because(0, true);
        values("the setting", x, 4, 4);
        due("it no longer goes with the relation", x.satisfied(0), false);
    }

    // Promise 18: satisfied

    @Says(promise = 18, words = "False when there is no such relation")
    static void satisfiedOfNoRelation() {
        RangeSheet x = sheet(4, 4);
        x.solve(0);
        due("none at all", x.satisfied(0), false);
        x.relate(AT_MOST, 0, 0, 0);
        x.relate(AT_MOST, 0, 0, 0);
        due("the last", x.satisfied(1), true);
        for (int r : noneOf(2)) {
            due("satisfied(" + r + ")", x.satisfied(r), false);
        }
        for (int r = 2; r < 12; r++) {
            x.relate(AT_MOST, 0, 0, 0);
        }
        due("the last of twelve", x.satisfied(11), true);
        due("satisfied(12)", x.satisfied(12), false);
    }

    @Says(promise = 18, words = "False when .. a value is NONE (there is no setting)")
    static void satisfiedWithoutASetting() {
        RangeSheet x = sheet(4, 4, 4, 4);
        x.relate(AT_MOST, 0, 1, -200);
        x.relate(AT_MOST, 0, 0, 0);
        x.relate(IF, 0, 1, 1);
        x.relate(LESSER, 0, 0, 0);
        x.relate(GREATER, 0, 1, 1);
        for (int r = 0; r < 5; r++) {
            due("relation " + r, x.satisfied(r), false);
        }
        x.narrow();
        due("narrowed alone", x.satisfied(0), false);
        x.solve(0);
        for (int r = 0; r < 5; r++) {
            due("relation " + r + ", with a setting", x.satisfied(r), true);
        }
    }

    @Says(promise = 18, words = "False when .. a value is NONE (of a, b or c)")
    static void satisfiedWithANewerCell() {
        for (int kind : KINDS_OF_THREE_CELLS) {
            RangeSheet x = sheet(1, 1, 1, 1);
            x.solve(0);
            x.cell(1, 1);
            x.relate(kind, 2, 0, 1);
            x.relate(kind, 0, 2, 1);
            x.relate(kind, 0, 1, 2);
            for (int r = 0; r < 3; r++) {
                due("kind " + kind + ", relation " + r, x.satisfied(r), false);
            }
            x.hold(0, false);
            x.hold(1, false);
            x.hold(2, false);
            x.solve(0);
            due("kind " + kind + ", with a setting", x.satisfied(0), kind != SUM);
        }
    }

    @Says(promise = 18, words = "False when .. a value is NONE (of an IF, though a is below 1 or b is at most c)")
    static void satisfiedOfAnIfWithANewerCell() {
        RangeSheet x = sheet(0, 0, 5, 5, 9, 9);
        x.solve(0);
        x.cell(0, 0);
        x.relate(IF, 0, 3, 1);
        x.relate(IF, 0, 1, 3);
        x.relate(IF, 3, 1, 2);
        for (int r = 0; r < 3; r++) {
            due("relation " + r, x.satisfied(r), false);
        }
        x.solve(0);
        for (int r = 0; r < 3; r++) {
            due("relation " + r + ", with a setting", x.satisfied(r), true);
        }
    }

    @Says(promise = 18, words = "False when .. a value is NONE (of two cells, and of different ones)")
    static void satisfiedOfOtherKindsWithANewerCell() {
        RangeSheet x = sheet(1, 1, 2, 2);
        x.row(0, 1, 3);
        x.row(0, 3, 1);
        x.solve(0);
        x.cell(3, 3);
        x.relate(AT_MOST, 2, 0, 2);
        x.relate(AT_MOST, 0, 2, -200);
        x.relate(DIFFERENT, 0b110, 0, 0);
        x.relate(TABLE, 0, 2, 0);
        x.relate(TABLE, 2, 0, 0);
        for (int r = 0; r < 5; r++) {
            due("relation " + r, x.satisfied(r), false);
        }
        x.hold(0, false);
        x.solve(0);
        for (int r = 1; r < 5; r++) {
            due("relation " + r + ", with a setting", x.satisfied(r), true);
        }
    }

    @Says(promise = 18, words = "a value is NONE (what is no cell has none, and is not asked for)")
    static void satisfiedWhereCIsNoCell() {
        RangeSheet x = sheet(1, 1, 2, 2);
        x.row(2, 1, 2);
        x.solve(0);
        x.cell(3, 3);
        x.relate(AT_MOST, 0, 1, 1);
        x.relate(AT_MOST, 0, 1, -200);
        x.relate(TABLE, 0, 1, 2);
        x.relate(DIFFERENT, 0b11, 2, 2);
        x.relate(DIFFERENT, 0b11, MIN, MAX);
        for (int r = 0; r < 5; r++) {
            due("relation " + r, x.satisfied(r), true);
        }
    }

    @Says(promise = 18, words = "Whether the setting satisfies relation r (whether it holds good or not)")
    static void satisfiedOfARelationTakenAway() {
        RangeSheet x = sheet(1, 1, 2, 2);
        x.solve(0);
        x.relate(AT_MOST, 0, 1, 1);
        x.relate(AT_MOST, 0, 1, 2);
        due("good and satisfied", x.satisfied(0), true);
        due("good and not satisfied", x.satisfied(1), false);
        x.hold(0, false);
        x.hold(1, false);
        due("taken away and satisfied", x.satisfied(0), true);
        due("taken away and not satisfied", x.satisfied(1), false);
    }

    @Says(promise = 18, words = "by a plain test (the setting alone counts, not the entries and ranges of now)")
    static void satisfiedByTheSettingAlone() {
        RangeSheet x = related(AT_MOST, 0, 1, 3, 0, 9, 0, 9);
        x.solve(300);
        values("setting", x, 0, 3);
        x.set(0, 9, 9);
        contradicts("now", x);
        due("satisfied", x.satisfied(0), true);
        x.relate(SUM, 0, 1, 1);
        due("a newer relation", x.satisfied(1), true);
        x.relate(SUM, 0, 1, 0);
        due("a newer relation that does not go with it", x.satisfied(2), false);
    }

    /** Relations kind, a, b, c among cells of one value each. */
    private static void plainTests(int[] cells, int[][] relations, boolean want) {
        int[] bounds = new int[2 * cells.length];
        for (int k = 0; k < bounds.length; k++) {
            bounds[k] = cells[k / 2];
        }
        for (int[] r : relations) {
            RangeSheet x = sheet(bounds);
            x.solve(0);
            x.relate(r[0], r[1], r[2], r[3]);
            due("kind " + r[0] + " of " + r[1] + ", " + r[2] + ", " + r[3], x.satisfied(0), want);
        }
    }

    @Says(promise = 18, words = "0 SUM: a + b = c. 1 PRODUCT: a * b = c")
    static void satisfiedSumsAndProducts() {
        int[] cells = {-7, 2, -5, -14, 0, 100, -100, 1};
        plainTests(cells, new int[][] {{SUM, 0, 1, 2}, {SUM, 1, 0, 2}, {SUM, 4, 4, 4}, {SUM, 5, 6, 4}, {SUM, 5, 4, 5},
            {PRODUCT, 0, 1, 3}, {PRODUCT, 1, 0, 3}, {PRODUCT, 4, 5, 4}, {PRODUCT, 7, 7, 7}, {PRODUCT, 6, 7, 6}}, true);
        plainTests(cells, new int[][] {{SUM, 0, 1, 3}, {SUM, 0, 2, 1}, {SUM, 5, 5, 5}, {SUM, 6, 6, 6}, {SUM, 7, 7, 7},
            {PRODUCT, 0, 1, 2}, {PRODUCT, 5, 5, 5}, {PRODUCT, 5, 6, 6}, {PRODUCT, 1, 1, 1}, {PRODUCT, 4, 5, 5}}, false);
    }

    @Says(promise = 18, words = "2 QUOTIENT: b is not 0, and a / b, rounded down (to the lesser int), is c")
    static void satisfiedQuotients() {
        int[] cells = {-7, 2, -4, -3, 7, -2, 3, 0, 1, -1};
        plainTests(cells, new int[][] {{QUOTIENT, 0, 1, 2}, {QUOTIENT, 4, 5, 2}, {QUOTIENT, 4, 1, 6}, {QUOTIENT, 0, 5, 6},
            {QUOTIENT, 7, 1, 7}, {QUOTIENT, 7, 5, 7}, {QUOTIENT, 8, 4, 7}, {QUOTIENT, 9, 4, 9}, {QUOTIENT, 8, 0, 9},
            {QUOTIENT, 8, 8, 8}, {QUOTIENT, 0, 0, 8}}, true);
        plainTests(cells, new int[][] {{QUOTIENT, 0, 1, 3}, {QUOTIENT, 4, 5, 3}, {QUOTIENT, 0, 7, 7}, {QUOTIENT, 7, 7, 7},
            {QUOTIENT, 7, 7, 8}, {QUOTIENT, 9, 4, 7}, {QUOTIENT, 8, 0, 7}, {QUOTIENT, 1, 0, 2}, {QUOTIENT, 4, 4, 4}}, false);
    }

    @Says(promise = 18, words = "3 LESSER: .. 4 GREATER: the greater of a and b is c")
    static void satisfiedLessersAndGreaters() {
        int[] cells = {-7, 2, -7, 2};
        plainTests(cells, new int[][] {{LESSER, 0, 1, 0}, {LESSER, 1, 0, 0}, {LESSER, 1, 0, 2}, {LESSER, 1, 3, 1},
            {GREATER, 0, 1, 1}, {GREATER, 1, 0, 1}, {GREATER, 1, 0, 3}, {GREATER, 0, 2, 0}}, true);
        plainTests(cells, new int[][] {{LESSER, 0, 1, 1}, {LESSER, 1, 0, 1}, {LESSER, 1, 3, 0}, {LESSER, 0, 2, 1},
            {GREATER, 0, 1, 0}, {GREATER, 1, 0, 0}, {GREATER, 1, 3, 0}, {GREATER, 0, 2, 1}}, false);
    }

    @Says(promise = 18, words = "5 AT MOST: a + c is at most b. 6 IF: a is below 1, or b is at most c")
    static void satisfiedAtMostsAndIfs() {
        int[] cells = {-7, 2, 0, 1, 100, -100, 2};
        plainTests(cells, new int[][] {{AT_MOST, 0, 1, 9}, {AT_MOST, 0, 1, 8}, {AT_MOST, 1, 0, -9}, {AT_MOST, 5, 4, 200},
            {AT_MOST, 4, 5, -200}, {AT_MOST, 0, 0, 0}, {AT_MOST, 0, 0, -1},
            {IF, 2, 1, 0}, {IF, 0, 1, 0}, {IF, 3, 0, 1}, {IF, 3, 1, 6}, {IF, 4, 0, 1}, {IF, 3, 1, 1}}, true);
        plainTests(cells, new int[][] {{AT_MOST, 0, 1, 10}, {AT_MOST, 1, 0, -8}, {AT_MOST, 4, 5, -199}, {AT_MOST, 0, 0, 1},
            {IF, 3, 1, 0}, {IF, 4, 1, 0}, {IF, 1, 3, 2}}, false);
    }

    @Says(promise = 18, words = "7 DIFFERENT: of all cells whose bit is 1 .., no two have the same value")
    static void satisfiedDifferentCells() {
        int[] cells = {5, 6, 5, 7, 8, 9, 10, 11, 12, 5};
        plainTests(cells, new int[][] {{DIFFERENT, 0b11, 0, 0}, {DIFFERENT, 0b110, 0, 0}, {DIFFERENT, 0b1010, 0, 0},
            {DIFFERENT, 0b0111111110, 0, 0}, {DIFFERENT, 0b1111111010, 0, 0}}, true);
        plainTests(cells, new int[][] {{DIFFERENT, 0b101, 0, 0}, {DIFFERENT, 0b111, 0, 0}, {DIFFERENT, 0b1000000001, 0, 0},
            {DIFFERENT, 0b1000000100, 0, 0}, {DIFFERENT, 0b1111111111, 0, 0}}, false);
    }

    @Says(promise = 18, words = "8 TABLE: a and b are x and y of a row of table c, which is looked at as it is then")
    static void satisfiedTables() {
        RangeSheet x = sheet(3, 3, 4, 4);
        x.solve(0);
        x.relate(TABLE, 0, 1, 2);
        x.relate(TABLE, 1, 0, 2);
        x.relate(TABLE, 0, 0, 2);
        due("without rows", x.satisfied(0), false);
        x.row(1, 3, 4);
        due("a row of another table", x.satisfied(0), false);
        x.row(2, 3, 5);
        x.row(2, 2, 4);
        due("x and y of two rows", x.satisfied(0), false);
        for (int n = 0; n < 6; n++) {
            x.row(2, 9, 9);
        }
        x.row(2, 4, 3);
        due("x and y turned", x.satisfied(0), false);
        due("of the relation that is turned", x.satisfied(1), true);
        due("the tenth row", x.row(2, 3, 4), 10);
        due("as it is then", x.satisfied(0), true);
        due("one cell as x and y", x.satisfied(2), false);
    }
}
