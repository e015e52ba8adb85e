/** The edges of promises 8 to 12: what is narrowed, what is told of it, and on which entries it rests. */
final class EdgesOfNarrowing extends Checks {

    // Promise 8: narrow, and the terms that it rests on

    @Says(promise = 8, words = "Narrows with all entries in force (without cells)")
    static void narrowWithoutCells() {
        RangeSheet x = new RangeSheet();
        due("narrow", x.narrow(), true);
        due("low(0)", x.low(0), NONE);
        due("high(0)", x.high(0), NONE);
    }

    @Says(promise = 8, words = "each cell's range is its first range (without entries and relations)")
    static void narrowWithoutEntriesAndRelations() {
        ranges("first ranges", sheet(-100, 100, 3, 3, -7, -2), -100, 100, 3, 3, -7, -2);
    }

    @Says(promise = 8, words = "its first range and what all these entries for it have in common with that")
    static void entriesHaveARangeInCommon() {
        RangeSheet x = sheet(0, 20, 0, 20);
        x.set(0, 5, 100);
        ranges("a low", x, 5, 20, 0, 20);
        x.set(0, -100, 15);
        ranges("a low and a high", x, 5, 15, 0, 20);
        x.set(0, 3, 9);
        ranges("a lesser high", x, 5, 9, 0, 20);
        x.set(0, 9, 12);
        ranges("one value", x, 9, 9, 0, 20);
    }

    @Says(promise = 8, words = "a contradiction, if nothing (with the first range)")
    static void anEntryHasNothingInCommonWithTheFirstRange() {
        RangeSheet above = sheet(0, 9);
        above.set(0, 9, 20);
        ranges("the high alone", above, 9, 9);
        above.set(0, 10, 20);
        contradicts("above", above);
        RangeSheet below = sheet(0, 9);
        below.set(0, -20, 0);
        ranges("the low alone", below, 0, 0);
        below.set(0, -20, -1);
        contradicts("below", below);
    }

    @Says(promise = 8, words = "a contradiction, if nothing (of two entries)")
    static void twoEntriesHaveNothingInCommon() {
        RangeSheet x = sheet(0, 9);
        x.set(0, 0, 4);
        x.set(0, 4, 9);
        ranges("one value", x, 4, 4);
        x.set(0, 5, 9);
        contradicts("no value", x);
        x.force(0, false);
        ranges("without the first", x, 5, 9);
    }

    @Says(promise = 8, words = "whether there is no contradiction")
    static void narrowTellsWhetherThereIsNone() {
        RangeSheet x = sheet(0, 9, 0, 9);
        due("none", x.narrow(), true);
        x.relate(AT_MOST, 0, 1, 9);
        due("just none", x.narrow(), true);
        told("just none", x, 0, 0, 9, 9);
        x.relate(AT_MOST, 0, 1, 10);
        due("one", x.narrow(), false);
        due("one, once more", x.narrow(), false);
        x.hold(1, false);
        due("none again", x.narrow(), true);
        told("none again", x, 0, 0, 9, 9);
    }

    @Says(promise = 8, words = "Narrows with all entries in force (each time anew, from the first ranges)")
    static void eachNarrowingIsAnew() {
        RangeSheet x = sheet(0, 9, 0, 9);
        x.relate(AT_MOST, 0, 1, 5);
        x.set(0, 3, 9);
        ranges("with all", x, 3, 4, 8, 9);
        x.force(0, false);
        ranges("without the entry", x, 0, 4, 5, 9);
        x.hold(0, false);
        ranges("without the relation", x, 0, 9, 0, 9);
        x.set(1, 20, 30);
        contradicts("with a wrong entry", x);
        x.force(1, false);
        ranges("without it", x, 0, 9, 0, 9);
    }

    @Says(promise = 8, words = "narrowed by relations that hold good as long as one changes anything")
    static void aChainIsNarrowedToItsEnds() {
        RangeSheet up = sheetOf(10, 0, 100);
        RangeSheet down = sheetOf(10, 0, 100);
        for (int k = 0; k < 9; k++) {
            up.relate(AT_MOST, k, k + 1, 1);
            down.relate(AT_MOST, 8 - k, 9 - k, 1);
        }
        int[] bounds = new int[20];
        for (int k = 0; k < 10; k++) {
            bounds[2 * k] = k;
            bounds[2 * k + 1] = 91 + k;
        }
        ranges("relations from the first cell on", up, bounds);
        ranges("relations from the last cell on", down, bounds);
    }

    @Says(promise = 8, words = "as long as one changes anything, or until there is a contradiction (a long way off)")
    static void aContradictionALongWayOff() {
        RangeSheet x = sheet(-100, 100, -100, 100);
        x.relate(AT_MOST, 0, 1, 1);
        x.relate(AT_MOST, 1, 0, 0);
        contradicts("each is above the other", x);
    }

    @Says(promise = 8, words = "Which relation is taken first makes no difference")
    static void theOrderOfRelationsMakesNoDifference() {
        int[][] relations = {{SUM, 0, 1, 2}, {PRODUCT, 0, 1, 3}, {AT_MOST, 0, 1, 1}, {DIFFERENT, 0b1111, 0, 0}};
        for (int first = 0; first < 4; first++) {
            RangeSheet x = sheet(1, 9, 1, 9, 0, 12, 6, 30);
            for (int k = 0; k < 4; k++) {
                int[] r = relations[(first + k) % 4];
                x.relate(r[0], r[1], r[2], r[3]);
            }
            ranges("from relation " + first, x, 1, 8, 2, 9, 3, 12, 6, 30);
            x.set(2, 0, 4);
            x.set(3, 0, 6);
            contradicts("from relation " + first, x);
        }
    }

    @Says(promise = 8, words = "its cells' range becomes the least value it has in any, and the greatest (each bound is had)")
    static void boundsThatNoSettingHasAreLeftOut() {
        ranges("squares", related(PRODUCT, 0, 0, 1, -100, 100, 50, 99), -9, 9, 64, 81);
        ranges("an even sum", related(SUM, 0, 0, 1, -100, 100, 5, 9), 3, 4, 6, 8);
        ranges("divisors", related(PRODUCT, 0, 1, 2, 2, 12, 4, 100, 35, 35), 5, 7, 5, 7, 35, 35);
        contradicts("a prime", related(PRODUCT, 0, 1, 2, 2, 100, 2, 100, 97, 97));
    }

    @Says(promise = 8, words = "that values in between are not had by any does not matter")
    static void valuesInBetweenDoNotMatter() {
        RangeSheet x = related(PRODUCT, 0, 0, 1, 0, 3, 0, 100);
        ranges("squares", x, 0, 3, 0, 9);
        x.set(1, 1, 9);
        ranges("squares of 1 to 3", x, 1, 3, 1, 9);
        RangeSheet t = related(TABLE, 0, 1, 0, 0, 9, 0, 9);
        t.row(0, 1, 8);
        t.row(0, 7, 2);
        ranges("two rows", t, 1, 7, 2, 8);
        t.relate(AT_MOST, 0, 1, -1);
        ranges("no bound tells it", t, 1, 7, 2, 8);
    }

    @Says(promise = 8, words = "0 SUM: a + b = c")
    static void sumAtTheEdges() {
        ranges("the greatest", related(SUM, 0, 1, 2, -100, 100, -100, 100, 100, 100), 0, 100, 0, 100, 100, 100);
        ranges("the least", related(SUM, 0, 1, 2, -100, 100, -100, 100, -100, -100), -100, 0, -100, 0, -100, -100);
        ranges("just there", related(SUM, 0, 1, 2, 1, 50, 1, 50, 100, 100), 50, 50, 50, 50, 100, 100);
        contradicts("just not there", related(SUM, 0, 1, 2, 1, 50, 1, 49, 100, 100));
        contradicts("100 + 100", related(SUM, 0, 1, 2, 100, 100, 100, 100, -100, 100));
        contradicts("-100 + -100", related(SUM, 0, 1, 2, -100, -100, -100, -100, -100, 100));
        ranges("a by b and c", related(SUM, 0, 1, 2, -100, 100, 3, 5, 10, 12), 5, 9, 3, 5, 10, 12);
        ranges("b by a and c", related(SUM, 0, 1, 2, 3, 5, -100, 100, 10, 12), 3, 5, 5, 9, 10, 12);
        ranges("c by a and b", related(SUM, 0, 1, 2, 3, 5, 10, 12, -100, 100), 3, 5, 10, 12, 13, 17);
    }

    @Says(promise = 8, words = "0 SUM: a + b = c (cells which may be the same)")
    static void sumOfTheSameCells() {
        ranges("a + a = c", related(SUM, 0, 0, 1, -100, 100, -100, 100), -50, 50, -100, 100);
        contradicts("a + a = 1", related(SUM, 0, 0, 1, -100, 100, 1, 1));
        ranges("a + b = a", related(SUM, 0, 1, 0, -100, 100, -100, 100), -100, 100, 0, 0);
        contradicts("a + 1 = a", related(SUM, 0, 1, 0, -100, 100, 1, 1));
        ranges("a + b = b", related(SUM, 0, 1, 1, -100, 100, -100, 100), 0, 0, -100, 100);
        ranges("a + a = a", related(SUM, 0, 0, 0, -100, 100), 0, 0);
        contradicts("1 + 1 = 1", related(SUM, 0, 0, 0, 1, 1));
    }

    @Says(promise = 8, words = "1 PRODUCT: a * b = c")
    static void productAtTheEdges() {
        ranges("by 0", related(PRODUCT, 0, 1, 2, 0, 0, -100, 100, -100, 100), 0, 0, -100, 100, 0, 0);
        contradicts("0 is not 1", related(PRODUCT, 0, 1, 2, 0, 0, -100, 100, 1, 1));
        ranges("not by 0", related(PRODUCT, 0, 1, 2, 0, 100, 0, 100, 1, 100), 1, 100, 1, 100, 1, 100);
        ranges("below 0 twice", related(PRODUCT, 0, 1, 2, -9, -2, -9, -3, -100, 100), -9, -2, -9, -3, 6, 81);
        ranges("below 0 once", related(PRODUCT, 0, 1, 2, -9, -2, 3, 9, -100, 100), -9, -2, 3, 9, -81, -6);
        ranges("100", related(PRODUCT, 0, 1, 2, 10, 100, 10, 100, -100, 100), 10, 10, 10, 10, 100, 100);
        contradicts("110", related(PRODUCT, 0, 1, 2, 10, 10, 11, 11, -100, 100));
        contradicts("10000", related(PRODUCT, 0, 1, 2, -100, -100, -100, -100, -100, 100));
        ranges("a on both sides of 0", related(PRODUCT, 0, 1, 2, -100, 100, -3, 4, 12, 12), -12, 12, -3, 4, 12, 12);
    }

    @Says(promise = 8, words = "1 PRODUCT: a * b = c (cells which may be the same)")
    static void productOfTheSameCells() {
        ranges("a * a = c", related(PRODUCT, 0, 0, 1, -100, 100, -100, 100), -10, 10, 0, 100);
        contradicts("a * a = -1", related(PRODUCT, 0, 0, 1, -100, 100, -100, -1));
        ranges("a * b = a, a not 0", related(PRODUCT, 0, 1, 0, 1, 100, -100, 100), 1, 100, 1, 1);
        ranges("a * b = a, b not 1", related(PRODUCT, 0, 1, 0, -100, 100, 2, 100), 0, 0, 2, 100);
        ranges("a * b = b, b not 0", related(PRODUCT, 0, 1, 1, -100, 100, 1, 100), 1, 1, 1, 100);
        ranges("a * b = b, a not 1", related(PRODUCT, 0, 1, 1, 2, 100, -100, 100), 2, 100, 0, 0);
        ranges("a * a = a", related(PRODUCT, 0, 0, 0, -100, 100), 0, 1);
        contradicts("2 * 2 = 2", related(PRODUCT, 0, 0, 0, 2, 100));
    }

    @Says(promise = 8, words = "2 QUOTIENT: b is not 0")
    static void quotientByNone() {
        contradicts("by 0", related(QUOTIENT, 0, 1, 2, -100, 100, 0, 0, -100, 100));
        contradicts("0 by 0", related(QUOTIENT, 0, 1, 2, 0, 0, 0, 0, 0, 0));
        ranges("0 as b's low", related(QUOTIENT, 0, 1, 2, 5, 5, 0, 2, -100, 100), 5, 5, 1, 2, 2, 5);
        ranges("0 as b's high", related(QUOTIENT, 0, 1, 2, 5, 5, -2, 0, -100, 100), 5, 5, -2, -1, -5, -3);
        ranges("0 within b", related(QUOTIENT, 0, 1, 2, 5, 5, -1, 1, -100, 100), 5, 5, -1, 1, -5, 5);
        contradicts("a by a that is 0", related(QUOTIENT, 0, 0, 1, 0, 0, -100, 100));
    }

    @Says(promise = 8, words = "2 QUOTIENT: .. a / b, rounded down (to the lesser int), is c")
    static void quotientRoundedDown() {
        int[][] cases = {{7, 2, 3}, {-7, 2, -4}, {7, -2, -4}, {-7, -2, 3}, {6, 3, 2}, {-6, 3, -2}, {6, -3, -2}, {-6, -3, 2},
            {1, 100, 0}, {-1, 100, -1}, {1, -100, -1}, {-1, -100, 0}, {0, 5, 0}, {0, -5, 0}, {100, 1, 100},
            {-100, 1, -100}, {100, -1, -100}, {-100, -1, 100}, {99, 100, 0}, {-99, -100, 0}, {99, -100, -1},
            {100, 100, 1}, {-100, 100, -1}, {100, 99, 1}, {-100, 99, -2}};
        for (int[] k : cases) {
            RangeSheet x = related(QUOTIENT, 0, 1, 2, k[0], k[0], k[1], k[1], -100, 100);
            ranges(k[0] + " / " + k[1], x, k[0], k[0], k[1], k[1], k[2], k[2]);
        }
    }

    @Says(promise = 8, words = "2 QUOTIENT: .. is c (backwards)")
    static void quotientBackwards() {
        ranges("a by 7", related(QUOTIENT, 0, 1, 2, -100, 100, 7, 7, 2, 2), 14, 20, 7, 7, 2, 2);
        ranges("a by -7", related(QUOTIENT, 0, 1, 2, -100, 100, -7, -7, 2, 2), -20, -14, -7, -7, 2, 2);
        ranges("a by 7, below 0", related(QUOTIENT, 0, 1, 2, -100, 100, 7, 7, -1, -1), -7, -1, 7, 7, -1, -1);
        ranges("a by -7, below 0", related(QUOTIENT, 0, 1, 2, -100, 100, -7, -7, -1, -1), 1, 7, -7, -7, -1, -1);
        ranges("b of 20 and 3", related(QUOTIENT, 0, 1, 2, 20, 20, -100, 100, 3, 3), 20, 20, 6, 6, 3, 3);
        ranges("b of 20 and -3", related(QUOTIENT, 0, 1, 2, 20, 20, -100, 100, -3, -3), 20, 20, -9, -7, -3, -3);
        contradicts("b of 20 and 7", related(QUOTIENT, 0, 1, 2, 20, 20, -100, 100, 7, 7));
        ranges("b of 5 and 0", related(QUOTIENT, 0, 1, 2, 5, 5, -100, 100, 0, 0), 5, 5, 6, 100, 0, 0);
    }

    @Says(promise = 8, words = "2 QUOTIENT: .. (cells which may be the same)")
    static void quotientOfTheSameCells() {
        ranges("a / a = c", related(QUOTIENT, 0, 0, 1, 0, 100, -100, 100), 1, 100, 1, 1);
        contradicts("a / a = 2", related(QUOTIENT, 0, 0, 1, -100, 100, 2, 100));
        ranges("a / b = a, b above 1", related(QUOTIENT, 0, 1, 0, -100, 100, 2, 100), -1, 0, 2, 100);
        ranges("a / 2 = a", related(QUOTIENT, 0, 1, 0, -100, 100, 2, 2), -1, 0, 2, 2);
        ranges("a / -1 = a", related(QUOTIENT, 0, 1, 0, -100, 100, -1, -1), 0, 0, -1, -1);
        ranges("a / b = a, b below 0", related(QUOTIENT, 0, 1, 0, -100, 100, -100, -1), 0, 0, -100, -1);
        ranges("a / b = a, b to 1", related(QUOTIENT, 0, 1, 0, -100, 100, 0, 1), -100, 100, 1, 1);
        ranges("a / b = a, a above 0", related(QUOTIENT, 0, 1, 0, 1, 100, -100, 100), 1, 100, 1, 1);
        ranges("a / b = b", related(QUOTIENT, 0, 1, 1, -100, 100, 2, 100), 4, 100, 2, 10);
        ranges("a / b = b, below 0", related(QUOTIENT, 0, 1, 1, -100, 100, -100, -1), 1, 100, -10, -1);
        ranges("a / a = a", related(QUOTIENT, 0, 0, 0, -100, 100), 1, 1);
        contradicts("2 / 2 = 2", related(QUOTIENT, 0, 0, 0, 2, 100));
    }

    @Says(promise = 8, words = "3 LESSER: the lesser of a and b is c")
    static void lesserAtTheEdges() {
        ranges("the same", related(LESSER, 0, 1, 2, 4, 4, 4, 4, -100, 100), 4, 4, 4, 4, 4, 4);
        ranges("c by a and b", related(LESSER, 0, 1, 2, 1, 9, 3, 7, -100, 100), 1, 9, 3, 7, 1, 7);
        ranges("both at least c", related(LESSER, 0, 1, 2, 0, 9, 0, 9, 5, 100), 5, 9, 5, 9, 5, 9);
        ranges("b alone can be c", related(LESSER, 0, 1, 2, 6, 9, 0, 9, 3, 5), 6, 9, 3, 5, 3, 5);
        ranges("a alone can be c", related(LESSER, 0, 1, 2, 0, 9, 6, 9, 3, 5), 3, 5, 6, 9, 3, 5);
        ranges("either can be c", related(LESSER, 0, 1, 2, 5, 9, 5, 9, 3, 5), 5, 9, 5, 9, 5, 5);
        contradicts("neither can be c", related(LESSER, 0, 1, 2, 6, 9, 6, 9, 3, 5));
        contradicts("a is below c", related(LESSER, 0, 1, 2, 0, 2, 0, 9, 3, 5));
        ranges("lesser of a and a is c", related(LESSER, 0, 0, 1, 0, 9, 5, 20), 5, 9, 5, 9);
        ranges("lesser of a and b is a", related(LESSER, 0, 1, 0, 3, 9, 0, 6), 3, 6, 3, 6);
        ranges("lesser of a and b is b", related(LESSER, 0, 1, 1, 0, 6, 3, 9), 3, 6, 3, 6);
        contradicts("lesser of 5 and 4 is 5", related(LESSER, 0, 1, 0, 5, 5, 4, 4));
        ranges("lesser of a and a is a", related(LESSER, 0, 0, 0, -3, 9), -3, 9);
    }

    @Says(promise = 8, words = "4 GREATER: the greater of a and b is c")
    static void greaterAtTheEdges() {
        ranges("the same", related(GREATER, 0, 1, 2, 4, 4, 4, 4, -100, 100), 4, 4, 4, 4, 4, 4);
        ranges("c by a and b", related(GREATER, 0, 1, 2, 1, 9, 3, 7, -100, 100), 1, 9, 3, 7, 3, 9);
        ranges("both at most c", related(GREATER, 0, 1, 2, 0, 9, 0, 9, -100, 5), 0, 5, 0, 5, 0, 5);
        ranges("b alone can be c", related(GREATER, 0, 1, 2, 0, 2, 0, 9, 3, 5), 0, 2, 3, 5, 3, 5);
        ranges("a alone can be c", related(GREATER, 0, 1, 2, 0, 9, 0, 2, 3, 5), 3, 5, 0, 2, 3, 5);
        ranges("either can be c", related(GREATER, 0, 1, 2, 0, 3, 0, 3, 3, 5), 0, 3, 0, 3, 3, 3);
        contradicts("neither can be c", related(GREATER, 0, 1, 2, 0, 2, 0, 2, 3, 5));
        contradicts("a is above c", related(GREATER, 0, 1, 2, 6, 9, 0, 9, 3, 5));
        ranges("greater of a and a is c", related(GREATER, 0, 0, 1, 0, 9, 5, 20), 5, 9, 5, 9);
        ranges("greater of a and b is a", related(GREATER, 0, 1, 0, 0, 6, 3, 9), 3, 6, 3, 6);
        ranges("greater of a and b is b", related(GREATER, 0, 1, 1, 3, 9, 0, 6), 3, 6, 3, 6);
        contradicts("greater of 4 and 5 is 4", related(GREATER, 0, 1, 0, 4, 4, 5, 5));
        ranges("greater of a and a is a", related(GREATER, 0, 0, 0, -3, 9), -3, 9);
    }

    @Says(promise = 8, words = "5 AT MOST: a + c is at most b, c being .. a number -200 .. 200")
    static void atMostAtTheEdges() {
        ranges("0", related(AT_MOST, 0, 1, 0, 0, 9, -3, 4), 0, 4, 0, 4);
        ranges("the same value", related(AT_MOST, 0, 1, 0, 5, 9, 0, 5), 5, 5, 5, 5);
        contradicts("one above", related(AT_MOST, 0, 1, 0, 6, 9, 0, 5));
        ranges("above 0", related(AT_MOST, 0, 1, 3, 0, 9, 0, 9), 0, 6, 3, 9);
        ranges("below 0", related(AT_MOST, 0, 1, -3, 8, 20, 0, 9), 8, 12, 5, 9);
        ranges("200", related(AT_MOST, 0, 1, 200, -100, 100, -100, 100), -100, -100, 100, 100);
        contradicts("200, one less", related(AT_MOST, 0, 1, 200, -100, 100, -100, 99));
        ranges("-200", related(AT_MOST, 0, 1, -200, 100, 100, -100, -100), 100, 100, -100, -100);
        contradicts("-199", related(AT_MOST, 0, 1, -199, 100, 100, -100, -100));
        ranges("a + 0 at most a", related(AT_MOST, 0, 0, 0, -3, 9), -3, 9);
        ranges("a - 200 at most a", related(AT_MOST, 0, 0, -200, -3, 9), -3, 9);
        contradicts("a + 1 at most a", related(AT_MOST, 0, 0, 1, -100, 100));
    }

    @Says(promise = 8, words = "6 IF: a is below 1, or b is at most c")
    static void ifAtTheEdges() {
        ranges("a of 0", related(IF, 0, 1, 2, 0, 0, 5, 9, 0, 3), 0, 0, 5, 9, 0, 3);
        ranges("a below 0", related(IF, 0, 1, 2, -9, -1, 5, 9, 0, 3), -9, -1, 5, 9, 0, 3);
        ranges("a of 1", related(IF, 0, 1, 2, 1, 1, 0, 9, -5, 5), 1, 1, 0, 5, 0, 5);
        ranges("a of 100", related(IF, 0, 1, 2, 100, 100, 0, 9, -5, 5), 100, 100, 0, 5, 0, 5);
        ranges("a of 0 or 1", related(IF, 0, 1, 2, 0, 1, 0, 9, -5, 5), 0, 1, 0, 9, -5, 5);
        ranges("b can be c", related(IF, 0, 1, 2, 0, 9, 5, 9, 0, 5), 0, 9, 5, 9, 0, 5);
        ranges("a goes above b and c", related(IF, 0, 1, 2, 0, 9, 0, 3, 0, 5), 0, 9, 0, 3, 0, 5);
        ranges("b must be c", related(IF, 0, 1, 2, 1, 9, 5, 9, 0, 5), 1, 9, 5, 5, 5, 5);
        ranges("b is above c", related(IF, 0, 1, 2, -4, 9, 6, 9, 0, 5), -4, 0, 6, 9, 0, 5);
        contradicts("b is above c, a of 1", related(IF, 0, 1, 2, 1, 9, 6, 9, 0, 5));
    }

    @Says(promise = 8, words = "6 IF: .. (cells which may be the same)")
    static void ifOfTheSameCells() {
        ranges("b at most b", related(IF, 0, 1, 1, 1, 9, 0, 5), 1, 9, 0, 5);
        ranges("if a, a at most c", related(IF, 0, 0, 1, -5, 9, 0, 5), -5, 5, 0, 5);
        ranges("if a, a at most 0", related(IF, 0, 0, 1, -5, 9, -9, 0), -5, 0, -9, 0);
        ranges("if a of 1, a at most c", related(IF, 0, 0, 1, 1, 9, -9, 5), 1, 5, 1, 5);
        contradicts("if a of 1, a at most 0", related(IF, 0, 0, 1, 1, 9, -9, 0));
        ranges("if a, b at most a", related(IF, 0, 1, 0, -5, 9, 9, 20), -5, 9, 9, 20);
        ranges("if a, b above a", related(IF, 0, 1, 0, -5, 9, 10, 20), -5, 0, 10, 20);
        ranges("if a of 1, b at most a", related(IF, 0, 1, 0, 1, 9, 4, 20), 4, 9, 4, 9);
        ranges("if a, a at most a", related(IF, 0, 0, 0, -5, 9), -5, 9);
    }

    @Says(promise = 8, words = "7 DIFFERENT: .. no two have the same value")
    static void differentAtTheEdges() {
        contradicts("two of one value", related(DIFFERENT, 0b11, 0, 0, 5, 5, 5, 5));
        ranges("two of two values", related(DIFFERENT, 0b11, 0, 0, 5, 6, 5, 6), 5, 6, 5, 6);
        ranges("one has the other's low", related(DIFFERENT, 0b11, 0, 0, 5, 5, 5, 9), 5, 5, 6, 9);
        ranges("one has the other's high", related(DIFFERENT, 0b11, 0, 0, 9, 9, 5, 9), 9, 9, 5, 8);
        ranges("one has a value within the other", related(DIFFERENT, 0b11, 0, 0, 7, 7, 5, 9), 7, 7, 5, 9);
        ranges("one after another", related(DIFFERENT, 0b111, 0, 0, 5, 5, 5, 6, 5, 7), 5, 5, 6, 6, 7, 7);
        ranges("two fill a range", related(DIFFERENT, 0b111, 0, 0, 5, 6, 5, 6, 4, 6), 5, 6, 5, 6, 4, 4);
        ranges("two fill the middle", related(DIFFERENT, 0b111, 0, 0, 5, 6, 5, 6, 4, 7), 5, 6, 5, 6, 4, 7);
        contradicts("three in two values", related(DIFFERENT, 0b111, 0, 0, 5, 6, 5, 6, 5, 6));
        ranges("three fill 1 to 3, the fourth starts within",
                related(DIFFERENT, 0b1111, 0, 0, 1, 3, 1, 3, 1, 3, 2, 9), 1, 3, 1, 3, 1, 3, 4, 9);
        ranges("three fill 1 to 3, the fourth ends within",
                related(DIFFERENT, 0b1111, 0, 0, -5, 2, 1, 3, 1, 3, 1, 3), -5, 0, 1, 3, 1, 3, 1, 3);
        ranges("three fill a range none fills alone",
                related(DIFFERENT, 0b1111, 0, 0, 1, 2, 2, 3, 1, 3, 1, 9), 1, 2, 2, 3, 1, 3, 4, 9);
    }

    @Says(promise = 8, words = "a FIRST RANGE low .. high within -100 .. 100 (the outermost values of each kind)")
    static void everyKindAtTheOutermostValues() {
        ranges("product of 100", related(PRODUCT, 0, 1, 2, -100, 100, 100, 100, -100, 100), -1, 1, 100, 100, -100, 100);
        ranges("product of -100", related(PRODUCT, 0, 1, 2, -100, 100, -100, -100, -100, 100), -1, 1, -100, -100, -100, 100);
        ranges("quotient of 100", related(QUOTIENT, 0, 1, 2, -100, 100, -100, 100, 100, 100), -100, 100, -1, 1, 100, 100);
        ranges("quotient of -100", related(QUOTIENT, 0, 1, 2, -100, 100, -100, 100, -100, -100), -100, 100, -1, 1, -100, -100);
        ranges("lesser of 100", related(LESSER, 0, 1, 2, -100, 100, -100, 100, 100, 100), 100, 100, 100, 100, 100, 100);
        ranges("lesser of -100", related(LESSER, 0, 1, 2, -100, 100, -100, 100, -100, -100), -100, 100, -100, 100, -100, -100);
        ranges("greater of 100", related(GREATER, 0, 1, 2, -100, 100, -100, 100, 100, 100), -100, 100, -100, 100, 100, 100);
        ranges("greater of -100", related(GREATER, 0, 1, 2, -100, 100, -100, 100, -100, -100), -100, -100, -100, -100, -100, -100);
        ranges("if b of 100", related(IF, 0, 1, 2, 100, 100, 100, 100, -100, 100), 100, 100, 100, 100, 100, 100);
        ranges("if c of -100", related(IF, 0, 1, 2, 100, 100, -100, 100, -100, -100), 100, 100, -100, -100, -100, -100);
        ranges("different from 100", related(DIFFERENT, 0b11, 0, 0, 100, 100, 99, 100), 100, 100, 99, 99);
        ranges("different from -100", related(DIFFERENT, 0b11, 0, 0, -100, -100, -100, -99), -100, -100, -99, -99);
        contradicts("no three of 99 and 100", related(DIFFERENT, 0b111, 0, 0, 99, 100, 99, 100, 99, 100));
        contradicts("no three of -100 and -99", related(DIFFERENT, 0b111, 0, 0, -100, -99, -100, -99, -100, -99));
    }

    @Says(promise = 8, words = "7 DIFFERENT: of all cells whose bit is 1 in a number a (bit k of cell k)")
    static void differentOfThoseCellsAlone() {
        ranges("not the cell in between", related(DIFFERENT, 0b101, 0, 0, 5, 5, 5, 5, 5, 6), 5, 5, 5, 5, 6, 6);
        RangeSheet ends = sheetOf(10, 3, 4);
        ends.relate(DIFFERENT, 0b1000000001, 0, 0);
        ends.set(9, 3, 3);
        ends.narrow();
        due("high of 0", ends.high(0), 4);
        due("low of 0", ends.low(0), 4);
        due("low of 1", ends.low(1), 3);
        due("low of 8", ends.low(8), 3);
        due("high of 9", ends.high(9), 3);
    }

    @Says(promise = 8, words = "7 DIFFERENT: .. (all ten cells)")
    static void differentOfTenCells() {
        RangeSheet x = sheetOf(10, 0, 9);
        x.relate(DIFFERENT, 1023, 0, 0);
        due("ten of ten values", x.narrow(), true);
        due("low of 9", x.low(9), 0);
        due("high of 9", x.high(9), 9);
        for (int k = 0; k < 9; k++) {
            x.set(k, 0, 8);
        }
        due("nine of nine values", x.narrow(), true);
        due("low of the tenth", x.low(9), 9);
        due("high of the tenth", x.high(9), 9);
        x.set(9, 0, 8);
        contradicts("ten of nine values", x);
    }

    @Says(promise = 8, words = "8 TABLE: a and b are x and y of a row of table c")
    static void tableAtTheEdges() {
        RangeSheet x = related(TABLE, 0, 1, 0, 0, 9, 0, 9);
        x.row(0, -1, 5);
        x.row(0, 5, 10);
        x.row(0, 10, 5);
        x.row(0, 5, -1);
        contradicts("no row within the ranges", x);
        x.row(0, 0, 9);
        ranges("one row at the edges", x, 0, 0, 9, 9);
        x.row(0, 9, 0);
        ranges("two rows at the edges", x, 0, 9, 0, 9);
        x.set(0, 1, 9);
        ranges("the first one is out", x, 9, 9, 0, 0);
        RangeSheet turned = related(TABLE, 1, 0, 0, 0, 9, 0, 9);
        turned.row(0, 2, 7);
        ranges("a and b turned", turned, 7, 7, 2, 2);
    }

    @Says(promise = 8, words = "8 TABLE: .. (a table without rows)")
    static void tableWithoutRows() {
        for (int t = 0; t <= 2; t++) {
            RangeSheet x = related(TABLE, 0, 1, t, 0, 9, 0, 9);
            x.row((t + 1) % 3, 1, 1);
            x.row((t + 2) % 3, 1, 1);
            contradicts("rows in other tables alone", x);
            due("conflict", x.conflict(), 0);
        }
    }

    @Says(promise = 8, words = "8 TABLE: .. table c, which is looked at as it is then")
    static void tableAsItIsThen() {
        RangeSheet x = related(TABLE, 0, 1, 2, 0, 9, 0, 9);
        x.row(2, 3, 4);
        ranges("one row", x, 3, 3, 4, 4);
        x.row(2, 6, 1);
        told("until it is narrowed", x, 3, 3, 4, 4);
        ranges("two rows", x, 3, 6, 1, 4);
    }

    @Says(promise = 8, words = "8 TABLE: .. (a full table)")
    static void tableOfTenRows() {
        RangeSheet x = related(TABLE, 0, 1, 1, -100, 100, -100, 100);
        for (int k = 0; k < 10; k++) {
            x.row(1, 10 * k, -k);
        }
        ranges("ten rows", x, 0, 90, -9, 0);
        x.set(0, 81, 100);
        ranges("the tenth", x, 90, 90, -9, -9);
        x.force(0, false);
        x.set(1, 0, 100);
        ranges("the first", x, 0, 0, 0, 0);
    }

    @Says(promise = 8, words = "8 TABLE: .. (cells which may be the same)")
    static void tableOfTheSameCell() {
        RangeSheet x = related(TABLE, 0, 0, 0, 0, 9);
        x.row(0, 3, 4);
        x.row(0, 4, 3);
        contradicts("no row has one value twice", x);
        x.row(0, 6, 6);
        ranges("one row does", x, 6, 6);
        x.row(0, 10, 10);
        ranges("one that is out of the range", x, 6, 6);
        x.row(0, 2, 2);
        ranges("two rows do", x, 2, 6);
    }

    @Says(promise = 8, words = "This alone makes what low() and high() tell; no search does")
    static void noSearchTellsALow() {
        RangeSheet x = related(AT_MOST, 0, 1, 5, 0, 9, 0, 9);
        x.solve(300);
        x.least(0, 300);
        x.greatest(1, 300);
        told("nothing was narrowed", x);
        ranges("narrowed", x, 0, 4, 5, 9);
        x.set(0, 2, 2);
        x.solve(300);
        x.least(1, 300);
        x.greatest(1, 300);
        x.solve(0);
        told("the latest narrowing", x, 0, 4, 5, 9);
        x.set(0, 9, 9);
        due("a search that starts with a contradiction", x.solve(300), 0);
        told("the latest narrowing", x, 0, 4, 5, 9);
    }

    // Promise 9: low

    @Says(promise = 9, words = "NONE when there is no such cell")
    static void lowOfNoCell() {
        RangeSheet x = sheetOf(3, 4, 9);
        x.narrow();
        due("the last", x.low(2), 4);
        for (int cell : noneOf(3)) {
            due("low(" + cell + ")", x.low(cell), NONE);
        }
        RangeSheet ten = sheetOf(10, 4, 9);
        ten.narrow();
        due("the last of ten", ten.low(9), 4);
        due("low(10)", ten.low(10), NONE);
        due("low(11)", ten.low(11), NONE);
    }

    @Says(promise = 9, words = "NONE when .. nothing was narrowed since it was made")
    static void lowOfACellNotNarrowed() {
        RangeSheet x = sheet(4, 9);
        due("never narrowed", x.low(0), NONE);
        x.narrow();
        due("narrowed", x.low(0), 4);
        x.cell(2, 3);
        due("a newer cell", x.low(1), NONE);
        due("the older cell", x.low(0), 4);
        x.conflict();
        x.because(1, true);
        x.solve(300);
        due("a newer cell, though searched", x.low(1), NONE);
        x.narrow();
        due("narrowed anew", x.low(1), 2);
    }

    @Says(promise = 9, words = "NONE when .. that ended with a contradiction")
    static void lowAfterAContradiction() {
        RangeSheet x = sheet(4, 9, 0, 5);
        x.narrow();
        x.set(1, 6, 7);
        due("before it is narrowed", x.low(0), 4);
        contradicts("an entry out of the range", x);
        due("the cell of the entry", x.low(1), NONE);
        due("the other cell", x.low(0), NONE);
        x.force(0, false);
        due("until it is narrowed", x.low(0), NONE);
        x.narrow();
        due("narrowed without it", x.low(0), 4);
        due("narrowed without it", x.low(1), 0);
        x.relate(AT_MOST, 1, 0, 50);
        contradicts("a relation", x);
        due("after that of a relation", x.low(0), NONE);
        due("after that of a relation", x.low(1), NONE);
    }

    @Says(promise = 9, words = "A cell's low when it was narrowed latest")
    static void lowWhenItWasNarrowedLatest() {
        RangeSheet x = sheet(-100, 9);
        x.narrow();
        due("the least low", x.low(0), -100);
        x.set(0, 5, 9);
        due("stays", x.low(0), -100);
        x.narrow();
        due("narrowed", x.low(0), 5);
        x.force(0, false);
        due("stays", x.low(0), 5);
        x.narrow();
        due("narrowed", x.low(0), -100);
    }

    // Promise 10: high

    @Says(promise = 10, words = "NONE likewise (when there is no such cell)")
    static void highOfNoCell() {
        RangeSheet x = sheetOf(3, 4, 9);
        x.narrow();
        due("the last", x.high(2), 9);
        for (int cell : noneOf(3)) {
            due("high(" + cell + ")", x.high(cell), NONE);
        }
        RangeSheet ten = sheetOf(10, 4, 9);
        ten.narrow();
        due("the last of ten", ten.high(9), 9);
        due("high(10)", ten.high(10), NONE);
        due("high(11)", ten.high(11), NONE);
    }

    @Says(promise = 10, words = "NONE likewise (when nothing was narrowed since it was made)")
    static void highOfACellNotNarrowed() {
        RangeSheet x = sheet(4, 9);
        due("never narrowed", x.high(0), NONE);
        x.narrow();
        due("narrowed", x.high(0), 9);
        x.cell(2, 3);
        due("a newer cell", x.high(1), NONE);
        due("the older cell", x.high(0), 9);
        x.conflict();
        x.because(1, true);
        x.solve(300);
        due("a newer cell, though searched", x.high(1), NONE);
        x.narrow();
        due("narrowed anew", x.high(1), 3);
    }

    @Says(promise = 10, words = "NONE likewise (when that ended with a contradiction)")
    static void highAfterAContradiction() {
        RangeSheet x = sheet(4, 9, 0, 5);
        x.narrow();
        x.set(1, 6, 7);
        due("before it is narrowed", x.high(0), 9);
        contradicts("an entry out of the range", x);
        due("the cell of the entry", x.high(1), NONE);
        due("the other cell", x.high(0), NONE);
        x.force(0, false);
        due("until it is narrowed", x.high(0), NONE);
        x.narrow();
        due("narrowed without it", x.high(0), 9);
        due("narrowed without it", x.high(1), 5);
        x.relate(AT_MOST, 1, 0, 50);
        contradicts("a relation", x);
        due("after that of a relation", x.high(0), NONE);
        due("after that of a relation", x.high(1), NONE);
    }

    @Says(promise = 10, words = "A cell's high then")
    static void highWhenItWasNarrowedLatest() {
        RangeSheet x = sheet(0, 100);
        x.narrow();
        due("the greatest high", x.high(0), 100);
        x.set(0, 0, 5);
        due("stays", x.high(0), 100);
        x.narrow();
        due("narrowed", x.high(0), 5);
        x.force(0, false);
        due("stays", x.high(0), 5);
        x.narrow();
        due("narrowed", x.high(0), 100);
    }

    // Promise 11: conflict

    @Says(promise = 11, words = "NONE when there is no contradiction")
    static void conflictWithoutAContradiction() {
        RangeSheet x = new RangeSheet();
        due("without cells", x.conflict(), NONE);
        x.cell(0, 9);
        due("without entries", x.conflict(), NONE);
        x.set(0, 0, 4);
        x.set(0, 4, 9);
        due("one value in common", x.conflict(), NONE);
        x.set(0, 5, 5);
        due("none in common", x.conflict(), 0b101);
        x.force(0, false);
        due("one withdrawn", x.conflict(), NONE);
    }

    @Says(promise = 11, words = "those that are left when they are trimmed by that test, as bits (none is left)")
    static void conflictThatRestsOnNoEntry() {
        RangeSheet x = related(AT_MOST, 0, 1, 10, 0, 9, 0, 9);
        due("without entries", x.conflict(), 0);
        x.set(0, 1, 2);
        x.set(1, 1, 2);
        due("with entries that it does not rest on", x.conflict(), 0);
        x.hold(0, false);
        due("the relation is taken away", x.conflict(), NONE);
    }

    @Says(promise = 11, words = "those that are left .., as bits (each of the twelve alone)")
    static void conflictThatRestsOnOneEntry() {
        for (int e = 0; e < 12; e++) {
            RangeSheet x = sheet(0, 9, 0, 9);
            for (int k = 0; k < 12; k++) {
                x.set(k % 2, k == e ? 10 : 0, 20);
            }
            due("entry " + e, x.conflict(), 1 << e);
        }
    }

    @Says(promise = 11, words = "those that are left .., as bits (all twelve)")
    static void conflictThatRestsOnAllEntries() {
        // ten different cells in nine values: with any entry left out, one of them has a value of its own
        RangeSheet x = sheet(-1, 9, -1, 9, 0, 9, 0, 9, 0, 9, 0, 9, 0, 9, 0, 9, 0, 9, 0, 9);
        x.relate(DIFFERENT, 1023, 0, 0);
        x.set(0, 0, 9);
        x.set(1, 0, 9);
        for (int k = 0; k < 10; k++) {
            x.set(k, -1, 8);
        }
        due("conflict", x.conflict(), 0b111111111111);
        x.force(11, false);
        due("without the last", x.conflict(), NONE);
    }

    @Says(promise = 11, words = "from the one with the greatest number down, each is left out if those that are left pass without it, too")
    static void conflictIsTrimmedFromTheGreatestNumberDown() {
        RangeSheet x = sheet(0, 9);
        x.set(0, 0, 3);
        x.set(0, 4, 6);
        x.set(0, 7, 9);
        due("any two would do", x.conflict(), 0b011);
        x.force(0, false);
        due("the other two", x.conflict(), 0b110);
        x.force(0, true);
        x.force(1, false);
        due("the first and the last", x.conflict(), 0b101);
        RangeSheet y = sheet(0, 9);
        y.set(0, 0, 3);
        y.set(0, 0, 4);
        y.set(0, 4, 9);
        y.set(0, 5, 9);
        due("what goes with the least numbers", y.conflict(), 0b0101);
        y.set(0, 20, 30);
        due("the last alone would do, but it is the first that is left out", y.conflict(), 0b00101);
    }

    @Says(promise = 11, words = "Narrows with all entries in force (withdrawn ones are none of them)")
    static void conflictOfEntriesInForceAlone() {
        RangeSheet x = sheet(0, 9);
        x.set(0, 0, 3);
        x.set(0, 0, 3);
        x.set(0, 6, 9);
        x.set(0, 6, 9);
        due("all", x.conflict(), 0b0101);
        x.force(0, false);
        due("without the first", x.conflict(), 0b0110);
        x.force(2, false);
        due("without two", x.conflict(), 0b1010);
        x.force(3, false);
        due("without three", x.conflict(), NONE);
    }

    @Says(promise = 11, words = "Narrows with all entries in force (which stay in force)")
    static void conflictWithdrawsNoEntry() {
        RangeSheet x = sheet(0, 9);
        x.set(0, 0, 3);
        x.set(0, 6, 9);
        x.set(0, 2, 7);
        due("conflict", x.conflict(), 0b011);
        due("once more", x.conflict(), 0b011);
        for (int e = 0; e < 3; e++) {
            due("entry " + e + " is in force", x.force(e, true), false);
        }
        x.force(0, false);
        ranges("the others", x, 6, 7);
    }

    @Says(promise = 11, words = "The latest narrowing stays what it was")
    static void conflictLeavesTheLatestNarrowing() {
        RangeSheet x = sheet(0, 9);
        x.conflict();
        told("nothing was narrowed", x);
        x.narrow();
        x.set(0, 2, 7);
        due("no contradiction", x.conflict(), NONE);
        told("without a contradiction", x, 0, 9);
        x.set(0, 8, 9);
        due("a contradiction", x.conflict(), 0b11);
        told("with a contradiction", x, 0, 9);
        contradicts("narrowed", x);
        x.force(0, false);
        due("no contradiction any more", x.conflict(), NONE);
        due("after the latest one", x.low(0), NONE);
        due("after the latest one", x.high(0), NONE);
    }

    @Says(promise = 11, words = "Narrows (it is no search)")
    static void conflictLeavesStepsAndSetting() {
        RangeSheet x = sheet(0, 9, 0, 9);
        x.solve(300);
        String before = look(x);
        x.set(0, 5, 6);
        x.conflict();
        x.set(0, 7, 8);
        x.conflict();
        due("what is told", look(x), before);
    }

    // Promise 12: because

    @Says(promise = 12, words = "IllegalArgumentException when there is no such cell")
    static void becauseOfNoCell() {
        RangeSheet x = sheetOf(3, 0, 9);
        x.set(0, 1, 2);
        for (int cell : noneOf(3)) {
            throwsOnly("because(" + cell + ", true)", ARGUMENT, () -> x.because(cell, true));
            throwsOnly("because(" + cell + ", false)", ARGUMENT, () -> x.because(cell, false));
        }
        due("the last", x.because(2, true), 0);
        x.set(0, 3, 4);
        throwsOnly("because(3, true), with a contradiction", ARGUMENT, () -> x.because(3, true));
        RangeSheet ten = sheetOf(10, 0, 9);
        throwsOnly("because(10, false)", ARGUMENT, () -> ten.because(10, false));
        due("the last of ten", ten.because(9, false), 0);
    }

    @Says(promise = 12, words = "NONE when there is a contradiction")
    static void becauseWithAContradiction() {
        RangeSheet x = sheet(0, 9, 0, 9);
        x.set(0, 2, 4);
        x.set(1, 5, 9);
        x.set(1, 0, 4);
        due("low of the other cell", x.because(0, false), NONE);
        due("high of the other cell", x.because(0, true), NONE);
        due("low of this cell", x.because(1, false), NONE);
        due("high of this cell", x.because(1, true), NONE);
        x.force(2, false);
        due("without it", x.because(0, false), 0b01);
        x.relate(AT_MOST, 0, 0, 1);
        due("a contradiction of a relation alone", x.because(0, false), NONE);
    }

    @Says(promise = 12, words = "the entries that are left when they are trimmed .., as bits (none is left)")
    static void becauseOfNoEntry() {
        RangeSheet x = related(AT_MOST, 0, 1, 5, 0, 9, 0, 9);
        due("the first range, without entries", x.because(0, false), 0);
        due("a relation, without entries", x.because(0, true), 0);
        x.set(0, -100, 100);
        x.set(1, 5, 9);
        x.set(0, 0, 4);
        due("entries that tell no more: low of a", x.because(0, false), 0);
        due("entries that tell no more: high of a", x.because(0, true), 0);
        due("entries that tell no more: low of b", x.because(1, false), 0);
        due("entries that tell no more: high of b", x.because(1, true), 0);
    }

    @Says(promise = 12, words = "the entries that are left .., as bits (each of the twelve alone)")
    static void becauseOfOneEntry() {
        for (int e = 0; e < 12; e++) {
            RangeSheet x = sheet(0, 9, 0, 9);
            for (int k = 0; k < 12; k++) {
                x.set(k % 2, k == e ? 3 : 0, k == e ? 5 : 9);
            }
            due("low, entry " + e, x.because(e % 2, false), 1 << e);
            due("high, entry " + e, x.because(e % 2, true), 1 << e);
            due("low of the other cell", x.because(1 - e % 2, false), 0);
            due("high of the other cell", x.because(1 - e % 2, true), 0);
        }
    }

    @Says(promise = 12, words = "the entries that are left .., as bits (all twelve)")
    static void becauseOfAllEntries() {
        // nine different cells fill nine values: with any entry left out, one of them leaves room for the tenth
        RangeSheet x = sheet(-1, 9, -1, 9, -1, 9, 0, 9, 0, 9, 0, 9, 0, 9, 0, 9, 0, 9, 0, 20);
        x.relate(DIFFERENT, 1023, 0, 0);
        for (int k = 0; k < 3; k++) {
            x.set(k, 0, 9);
        }
        for (int k = 0; k < 9; k++) {
            x.set(k, -1, 8);
        }
        due("low of the tenth", x.because(9, false), 0b111111111111);
        due("high of the tenth", x.because(9, true), 0);
    }

    @Says(promise = 12, words = "its low (or high) is the same (low when high is false)")
    static void becauseOfLowAndOfHigh() {
        RangeSheet x = sheet(0, 9);
        x.set(0, 2, 9);
        x.set(0, 0, 6);
        due("low", x.because(0, false), 0b01);
        due("high", x.because(0, true), 0b10);
    }

    @Says(promise = 12, words = "from the one with the greatest number down, each is left out if those that are left pass without it, too")
    static void becauseIsTrimmedFromTheGreatestNumberDown() {
        RangeSheet x = sheet(0, 9, 0, 9);
        x.set(0, 3, 9);
        x.set(0, 5, 9);
        x.set(0, 5, 8);
        x.set(0, 4, 9);
        due("of two that tell the same low, the lesser number", x.because(0, false), 0b0010);
        due("the only one that tells the high", x.because(0, true), 0b0100);
        x.force(1, false);
        due("the other one", x.because(0, false), 0b0100);
        x.force(2, false);
        due("the next low", x.because(0, false), 0b1000);
        x.force(3, false);
        due("the last low", x.because(0, false), 0b0001);
        x.force(0, false);
        due("no entry", x.because(0, false), 0);
    }

    @Says(promise = 12, words = "narrowed with them, its low (or high) is the same (through relations, resting on several)")
    static void becauseThroughRelations() {
        RangeSheet x = sheet(0, 9, 0, 9, 0, 18);
        x.relate(SUM, 0, 1, 2);
        x.set(2, 0, 17);
        x.set(0, 2, 9);
        x.set(1, 3, 9);
        x.set(2, 5, 18);
        due("low of c by a and b, as the last is left out first", x.because(2, false), 0b0110);
        due("high of c", x.because(2, true), 0b0001);
        x.force(1, false);
        due("low of c by its own entry", x.because(2, false), 0b1000);
        due("low of a", x.because(0, false), 0);
    }

    @Says(promise = 12, words = "narrowed with all entries in force (withdrawn ones are none of them, and all stay as they are)")
    static void becauseOfEntriesInForceAlone() {
        RangeSheet x = sheet(0, 9);
        x.set(0, 4, 9);
        x.set(0, 4, 9);
        x.set(0, 2, 9);
        x.force(0, false);
        due("the second", x.because(0, false), 0b010);
        due("once more", x.because(0, false), 0b010);
        due("the first is withdrawn", x.force(0, false), false);
        due("the second is in force", x.force(1, true), false);
        due("the third is in force", x.force(2, true), false);
    }

    @Says(promise = 12, words = "The latest narrowing stays what it was")
    static void becauseLeavesTheLatestNarrowing() {
        RangeSheet x = sheet(0, 9);
        x.because(0, false);
        told("nothing was narrowed", x);
        x.narrow();
        x.set(0, 2, 7);
        due("because", x.because(0, false), 0b1);
        told("without a contradiction", x, 0, 9);
        x.set(0, 8, 9);
        due("a contradiction", x.because(0, false), NONE);
        told("with a contradiction", x, 0, 9);
        contradicts("narrowed", x);
        x.force(1, false);
        due("no contradiction any more", x.because(0, true), 0b1);
        due("after the latest one", x.low(0), NONE);
        due("after the latest one", x.high(0), NONE);
    }

    @Says(promise = 12, words = "narrowed (it is no search)")
    static void becauseLeavesStepsAndSetting() {
        RangeSheet x = sheet(0, 9, 0, 9);
        x.solve(300);
        String before = look(x);
        x.set(0, 5, 6);
        x.because(0, true);
        x.because(1, false);
        throwsOnly("because(2, true)", ARGUMENT, () -> x.because(2, true));
        due("what is told", look(x), before);
    }
}
