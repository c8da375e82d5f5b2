/** Promises 6 (facet), 7 (range), 8 (filter), 9 (least), 10 (missing) and 11 (order). */
public final class FacetsTest {
    private static final Check c = new Check();

    public static void main(String[] args) {
        facet();
        facetOutside();
        range();
        filter();
        filterOfAnyNumbers();
        least();
        missing();
        order();
        c.end();
    }

    private static void facet() {
        FacetFigures x = new FacetFigures();
        int[][] good = {
            {0, 0, -5, 9}, {1, 5, 99, -99}, {2, 3, Integer.MIN_VALUE, Integer.MAX_VALUE}, {3, 0, 1, 0},
            {3, 0, 1000000, 999999}, {3, 0, 1000000, 0}, {4, 0, 0, -1}, {4, 0, 4, 1000}, {4, 1, 2, 0}, {4, 1, 1, 0},
        };
        for (int f = 0; f < good.length; f++) {
            c.due("facet", x.facet(good[f][0], good[f][1], good[f][2], good[f][3]), f);
        }
        c.due("facet, the 11th", x.facet(0, 0, 0, 0), Scene.ROOM);
        c.due("outside ahead of room", x.facet(5, 0, 0, 0), Scene.OUTSIDE);
        c.due("told(2)", x.told(2), 10);
        c.due("groups(9)", x.groups(9), 0);
        c.due("groups(10)", x.groups(10), Scene.OUTSIDE);
    }

    private static void facetOutside() {
        FacetFigures x = new FacetFigures();
        int[][] bad = {
            {-1, 0, 0, 0}, {5, 0, 0, 0}, {0, -1, 0, 0}, {0, 6, 0, 0}, {3, 0, 0, 0}, {3, 0, -1, 0}, {3, 0, 1000001, 0},
            {3, 0, 10, 10}, {3, 0, 10, -1}, {3, 0, 1, 1}, {4, 0, -1, 0}, {4, 0, 5, 0}, {3, 6, 1, 0}, {4, -1, 0, 0},
            {Integer.MIN_VALUE, 0, 0, 0}, {Integer.MAX_VALUE, 0, 0, 0}, {3, 0, Integer.MIN_VALUE, 0},
        };
        for (int[] one : bad) {
            c.due("facet outside", x.facet(one[0], one[1], one[2], one[3]), Scene.OUTSIDE);
        }
        c.due("told(2)", x.told(2), 0);
    }

    private static void range() {
        FacetFigures x = new FacetFigures();
        x.facet(Scene.RANGES, 0, 0, 0);
        x.facet(Scene.WORDS, 0, 0, 0);
        c.due("from above to", x.range(0, 2, 1), Scene.OUTSIDE);
        c.due("from no value", x.range(0, -1000000001, 0), Scene.OUTSIDE);
        c.due("to no value", x.range(0, 0, 1000000001), Scene.OUTSIDE);
        c.due("no such facet", x.range(2, 0, 1), Scene.OUTSIDE);
        c.due("no such facet", x.range(-1, 0, 1), Scene.OUTSIDE);
        c.due("not of kind 2", x.range(1, 0, 1), Scene.STATE);
        c.due("outside ahead of state", x.range(1, 1, 0), Scene.OUTSIDE);
        c.due("first", x.range(0, -1000000000, 1000000000), 0);
        c.due("of one value", x.range(0, 5, 5), 1);
        for (int r = 2; r < 6; r++) {
            c.due("range", x.range(0, r, r + 10), r);
        }
        c.due("the 7th", x.range(0, 0, 1), Scene.ROOM);
        c.due("outside ahead of room", x.range(0, 1, 0), Scene.OUTSIDE);
        c.due("state although others are full", x.range(1, 0, 1), Scene.STATE);
        x.least(0, 0);
        c.due("groups", x.groups(0), 6);
        c.due("another facet has its own", x.facet(Scene.RANGES, 0, 0, 0), 2);
        c.due("first of that one", x.range(2, 0, 0), 0);
    }

    private static void filter() {
        FacetFigures x = new FacetFigures();
        Scene.matching(x, 0, 1);
        int second = Scene.matching(x, 0, 2);
        x.value(second, 1, 10);
        x.value(second, 1, 20);
        x.facet(Scene.WORDS, 0, 0, 0);
        x.facet(Scene.WORDS, 0, 0, 0);
        c.due("first filter", x.filter(0, 1, 20, 30), 0);
        Scene.dueList(c, "only with a value within", x, 0, "2:1");
        Scene.dueList(c, "the other facet has none", x, 1, "1:1 2:1");
        c.due("another filter", x.filter(0, 1, 11, 19), 1);
        Scene.dueList(c, "none between two values", x, 0, "");
        c.due("both ends are within", x.filter(0, 1, 10, 10), 1);
        Scene.dueList(c, "both ends are within", x, 0, "2:1");
        c.due("from above to", x.filter(0, 1, 2, 1), Scene.OUTSIDE);
        c.due("column 6", x.filter(0, 6, 1, 2), Scene.OUTSIDE);
        c.due("column -1", x.filter(0, -1, 1, 2), Scene.OUTSIDE);
        c.due("no such facet", x.filter(2, 0, 1, 2), Scene.OUTSIDE);
        c.due("no such facet, column NONE", x.filter(2, Scene.NONE, 1, 2), Scene.OUTSIDE);
        Scene.dueList(c, "nothing changed", x, 0, "2:1");
        c.due("none, from above to not looked at", x.filter(0, Scene.NONE, 2, 1), 1);
        Scene.dueList(c, "all count", x, 0, "1:1 2:1");
        c.due("none again", x.filter(0, Scene.NONE, 0, 0), 0);
    }

    private static void filterOfAnyNumbers() {
        FacetFigures x = new FacetFigures();
        Scene.matching(x, 0, -1000000000);
        Scene.matching(x, 0, 1000000000);
        Scene.matching(x, 1, 0);
        x.facet(Scene.WORDS, 0, 0, 0);
        x.missing(0, true);
        c.due("all ints", x.filter(0, 0, Integer.MIN_VALUE, Integer.MAX_VALUE), 0);
        Scene.dueList(c, "those without a value do not count", x, 0, "-1000000000:1 1000000000:1");
        c.due("above all values", x.filter(0, 0, 1000000001, Integer.MAX_VALUE), 1);
        Scene.dueList(c, "none counts", x, 0, "");
        c.due("below all values", x.filter(0, 0, Integer.MIN_VALUE, -1000000001), 1);
        Scene.dueList(c, "none counts", x, 0, "");
        c.due("the column of the missing one", x.filter(0, 1, 0, 0), 1);
        Scene.dueList(c, "only the missing", x, 0, "missing:1");
    }

    private static void least() {
        FacetFigures x = new FacetFigures();
        Scene.matching(x, 0, 1);
        Scene.matching(x, 0, 1, 2);
        Scene.matching(x, 0, 1, 2, 3);
        Scene.matching(x, 1, 0);
        x.facet(Scene.WORDS, 0, 0, 0);
        x.missing(0, true);
        c.due("least(2)", x.least(0, 2), 1);
        Scene.dueList(c, "least 2, the missing too", x, 0, "1:3 2:2");
        c.due("least(3)", x.least(0, 3), 2);
        Scene.dueList(c, "least 3", x, 0, "1:3");
        c.due("find one that is not there", x.find(0, 2), Scene.NONE);
        c.due("least(120)", x.least(0, 120), 3);
        Scene.dueList(c, "least 120", x, 0, "");
        c.due("least(121)", x.least(0, 121), Scene.OUTSIDE);
        c.due("least(-1)", x.least(0, -1), Scene.OUTSIDE);
        c.due("no such facet", x.least(1, 1), Scene.OUTSIDE);
        c.due("no such facet", x.least(-1, 1), Scene.OUTSIDE);
        c.due("least(0)", x.least(0, 0), 120);
        Scene.dueList(c, "least 0", x, 0, "1:3 2:2 3:1 missing:1");
        c.due("it was 0", x.least(0, 1), 0);
    }

    private static void missing() {
        FacetFigures x = new FacetFigures();
        Scene.matching(x, 0, 5);
        Scene.matching(x, 1, 5);
        Scene.matching(x, 1, 5);
        x.object();
        x.facet(Scene.WORDS, 0, 0, 0);
        Scene.dueList(c, "not asked for at first", x, 0, "5:1");
        c.due("missing(true)", x.missing(0, true), 0);
        Scene.dueList(c, "last although it has more", x, 0, "5:1 missing:2");
        c.due("missing(true) again", x.missing(0, true), 1);
        c.due("missing(false)", x.missing(0, false), 1);
        Scene.dueList(c, "not asked for", x, 0, "5:1");
        c.due("missing(false) again", x.missing(0, false), 0);
        c.due("no such facet", x.missing(1, true), Scene.OUTSIDE);
        c.due("no such facet", x.missing(-1, true), Scene.OUTSIDE);
        x.missing(0, true);
        x.match(1, false);
        x.match(2, false);
        x.least(0, 0);
        Scene.dueList(c, "no missing, no group, though least is 0", x, 0, "5:1");
    }

    private static void order() {
        FacetFigures x = new FacetFigures();
        int[] words = {20, 10, 30, 30, 10, 40};
        int[] sums = {7, -5, 3, 4, 1, 1000000000};
        for (int o = 0; o < words.length; o++) {
            Scene.matching(x, 0, words[o]);
            x.value(o, 2, sums[o]);
        }
        x.value(5, 2, 1000000000);
        x.value(5, 2, 1000000000);
        x.facet(Scene.WORDS, 0, 0, 0);
        Scene.dueList(c, "more objects first", x, 0, "10:2 30:2 20:1 40:1");
        c.due("order 1, the column is not looked at", x.order(0, 1, 77), 0);
        Scene.dueList(c, "by key", x, 0, "10:2 20:1 30:2 40:1");
        c.due("order 2", x.order(0, 2, 2), 1);
        Scene.dueList(c, "by sum, alike ones by key", x, 0, "40:1 20:1 30:2 10:2");
        c.due("order 2, a column without values", x.order(0, 2, 5), 2);
        Scene.dueList(c, "all sums 0", x, 0, "10:2 20:1 30:2 40:1");
        c.due("order 2, column 6", x.order(0, 2, 6), Scene.OUTSIDE);
        c.due("order 2, column NONE", x.order(0, 2, Scene.NONE), Scene.OUTSIDE);
        c.due("order 3", x.order(0, 3, 0), Scene.OUTSIDE);
        c.due("order -1", x.order(0, -1, 0), Scene.OUTSIDE);
        c.due("no such facet", x.order(1, 0, 0), Scene.OUTSIDE);
        c.due("no such facet", x.order(-1, 0, 0), Scene.OUTSIDE);
        c.due("order 0, the column is not looked at", x.order(0, 0, -9), 2);
        Scene.dueList(c, "more objects first", x, 0, "10:2 30:2 20:1 40:1");
        c.due("it was 0", x.order(0, 0, 0), 0);
        x.match(0, false);
        x.match(1, false);
        Scene.dueList(c, "more objects first, then the key", x, 0, "30:2 10:1 40:1");
    }
}
