/** The edges that the document names for FILTER, GROUP, THE MISSING, LEAST and ORDER, and promises 12 to 15. */
public final class GroupEdgesTest {
    private static final Sentences s = new Sentences();

    public static void main(String[] args) {
        filter();
        filterIsOfTheFacetAlone();
        group();
        rangesWithoutObjects();
        theMissing();
        leastCount();
        leastOfEachKind();
        leastOfTheMissing();
        orderByCount();
        orderByKey();
        orderBySum();
        greatSums();
        theMissingIsLast();
        groups();
        groupOutside();
        find();
        in();
        s.end();
    }

    private static void filter() {
        s.holds("A FILTER: only objects with a VALUE from FROM to TO in that COLUMN count for this facet",
            "thing 0: 1; 1: 9", "thing 0: 1; 1: 10", "thing 0: 1; 1: 20", "thing 0: 1; 1: 21", "thing 0: 1",
            "thing 0: 1; 1: 9 21", "thing 0: 1; 1: 0 99 15", "thing 0: 1; 2: 15", "facet(0, 0, 0, 0)",
            "filter(0, 1, 10, 20) = 0", "list(0) = 1:3", "members(0, 0) = 1 2 6", "filter(0, 1, 20, 20) = 1",
            "members(0, 0) = 2", "filter(0, 1, 11, 14) = 1", "list(0) = nothing", "filter(0, 1, MIN, MAX) = 1",
            "members(0, 0) = 0 1 2 3 5 6");
        s.holds("A FILTER: a VALUE in that COLUMN: none there is not 0, and other columns and objects do not help",
            "thing 0: 1", "thing 0: 1; 1: 5", "thing 0: 1; 1: 5 5", "thing 0: 1; 1: 5 5 5; 2: 0", "thing 0: 0 1; 1: 5",
            "thing 0: 1; 1: 0", "facet(0, 0, 0, 0)", "filter(0, 1, 0, 0)", "list(0) = 1:1",
            "members(0, 0) = 5");
        s.holds("A FILTER: of the last COLUMN of the last object",
            "119 times object()", "thing 0: 7; 5: 5 5 5", "facet(0, 0, 0, 0)", "filter(0, 5, 0, 4)",
            "list(0) = nothing", "filter(0, 5, 6, MAX)", "list(0) = nothing", "filter(0, 5, 5, 5)", "list(0) = 7:1");
        s.holds("A FILTER: VALUES of an object that was there before clear() do not help",
            "thing 1: 0 0 0", "clear()", "thing 0: 1; 1: 5", "facet(0, 0, 0, 0)", "filter(0, 1, 0, 0)",
            "list(0) = nothing");
        s.holds("A FILTER of the facet's own COLUMN: the object counts with all its VALUES",
            "thing 0: 1 2 3", "thing 0: 2 3", "facet(0, 0, 0, 0)", "filter(0, 0, 1, 1) = 0", "list(0) = 1:1 2:1 3:1");
        s.holds("A FILTER through which none comes: no GROUPS, but those of RANGES",
            "thing 0: 1", "thing", "facet(0, 0, 0, 0)", "facet(2, 0, 0, 0)", "range(1, 0, 9)", "least(0, 0)",
            "least(1, 0)", "missing(0, true)", "missing(1, true)", "filter(0, 0, 2, 2)", "filter(1, 0, 2, 2)",
            "list(0) = nothing", "list(1) = 0:0");
    }

    private static void filterIsOfTheFacetAlone() {
        s.holds("A FILTER: count for this facet: other facets, and what is AT HAND, stay",
            "thing 0: 1; 1: 5", "thing 0: 1; 1: 6", "facet(0, 0, 0, 0)", "facet(0, 0, 0, 0)", "filter(0, 1, 5, 5) = 0",
            "list(0) = 1:1", "list(1) = 1:2", "hand() = 2", "told(1) = 2", "figure(0, NONE, 1, 1) = 11",
            "figure(0, 0, 1, 1) = 5", "figure(1, 0, 1, 1) = 11", "place(0, NONE, 1, 100) = 6",
            "place(0, 0, 1, 100) = 5", "enter(0, 0) = 1", "list(1) = 1:1", "members(1, 0) = 0");
    }

    private static void group() {
        s.holds("A GROUP: all objects AT HAND that count, and one of whose VALUES gives its KEY",
            "thing 0: 1", "thing 0: 1 2", "thing 0: 2; 1: 1", "object()", "value(3, 0, 1)", "facet(0, 0, 0, 0)",
            "list(0) = 1:2 2:2", "members(0, 0) = 0 1", "members(0, 1) = 1 2", "match(3, true)",
            "members(0, 0) = 0 1 3", "match(1, false)", "list(0) = 1:2 2:1", "members(0, 0) = 0 3");
        s.holds("A GROUP (each once): more than one of its VALUES gives the KEY",
            "thing 0: 5 5 5", "thing 1: 123456 123457 123400", "thing 2: 1 2 3", "thing 3: 11 12 19",
            "thing 4: 0 1 2", "facet(0, 0, 0, 0)", "facet(1, 1, 0, 0)", "facet(2, 2, 0, 0)", "range(2, 0, 9)",
            "facet(3, 3, 10, 0)", "facet(4, 4, 1, 0)", "list(0) = 5:1", "list(1) = 120000:1 123400:1 123456:1 123457:1",
            "list(2) = 0:1", "list(3) = 10:1", "list(4) = -3:1");
        s.holds("A GROUP of all objects that there may be",
            "120 times object()", "120 times match(#, true)", "120 times value(#, 0, 7)", "facet(0, 0, 0, 0)",
            "list(0) = 7:120", "members(0, 0) = " + numbersTo(119));
        s.holds("A GROUP of each object's own",
            "120 times object()", "120 times match(#, true)", "120 times value(#, 0, #)", "facet(0, 0, 0, 0)",
            "groups(0) = 120", "120 times group(0, #, 0) = #", "group(0, 119, 1) = 1", "in(0, 119, 119) = 1",
            "in(0, 119, 118) = 0", "group(0, 120, 0) = OUTSIDE");
    }

    private static String numbersTo(int last) {
        StringBuilder text = new StringBuilder("0");
        for (int k = 1; k <= last; k++) {
            text.append(' ').append(k);
        }
        return text.toString();
    }

    private static void rangesWithoutObjects() {
        s.holds("Of RANGES there is a GROUP for each RANGE, also one without objects: without any object",
            "facet(2, 0, 0, 0)", "6 times range(0, #, #)", "groups(0) = 0", "least(0, 0) = 1",
            "list(0) = 0:0 1:0 2:0 3:0 4:0 5:0", "6 times find(0, #) = #", "find(0, 6) = NONE");
        s.holds("Of RANGES there is a GROUP for each RANGE: those without objects among the others",
            "facet(2, 0, 0, 0)", "range(0, 0, 0)", "range(0, 1, 1)", "range(0, 2, 2)", "range(0, 3, 3)", "thing 0: 1",
            "thing 0: 3", "thing 0: 3", "list(0) = 3:2 1:1", "least(0, 0) = 1", "list(0) = 3:2 1:1 0:0 2:0",
            "order(0, 1, 0)", "list(0) = 0:0 1:1 2:0 3:2", "members(0, 0) = nothing", "in(0, 0, 0) = 0",
            "figures(0, 0, 0) = 0 0 NONE NONE 0", "place(0, 0, 0, 50) = NONE", "group(0, 0, 2) = 0");
        s.holds("Of RANGES: an object that does not match leaves the GROUP without objects",
            "facet(2, 0, 0, 0)", "range(0, 0, 9)", "least(0, 0)", "thing 0: 5", "list(0) = 0:1", "match(0, false)",
            "list(0) = 0:0", "least(0, 1)", "list(0) = nothing");
        s.holds("Of other KINDS there is no GROUP without objects, though LEAST is 0",
            "facet(0, 0, 0, 0)", "facet(1, 0, 0, 0)", "facet(3, 0, 1, 0)", "facet(4, 0, 0, 0)", "4 times least(#, 0)",
            "object()", "value(0, 0, 10000)", "4 times groups(#) = 0", "match(0, true)", "4 times groups(#) = 1");
    }

    private static void theMissing() {
        s.holds("THE MISSING, if it is asked for: those that count and have no KEY",
            "thing 0: 5", "thing", "thing 1: 5", "object()", "facet(0, 0, 0, 0)", "list(0) = 5:1", "missing(0, true)",
            "list(0) = 5:1 missing:2", "members(0, 1) = 1 2", "group(0, 1, 0) = NONE", "group(0, 1, 2) = 1",
            "group(0, 0, 2) = 0", "filter(0, 1, 5, 5) = 0", "list(0) = missing:1", "members(0, 0) = 2",
            "filter(0, 1, 6, 6) = 1", "list(0) = nothing");
        s.holds("THE MISSING: it is a GROUP too, if there are any: not without any, though LEAST is 0",
            "thing 0: 5", "object()", "facet(0, 0, 0, 0)", "missing(0, true)", "least(0, 0)", "list(0) = 5:1",
            "value(1, 1, 5)", "list(0) = 5:1", "match(1, true)", "list(0) = 5:1 missing:1", "value(1, 0, 5)",
            "list(0) = 5:2");
        s.holds("THE MISSING: all of them, and nobody else",
            "120 times object()", "120 times match(#, true)", "facet(0, 0, 0, 0)", "missing(0, true)",
            "list(0) = missing:120", "members(0, 0) = " + numbersTo(119));
        s.holds("THE MISSING: have no KEY, of each KIND",
            "thing", "thing 0: 1000000000", "facet(0, 0, 0, 0)", "facet(1, 0, 0, 0)", "facet(2, 0, 0, 0)",
            "range(2, 0, 9)", "facet(3, 0, 1, 0)", "facet(4, 0, 0, 0)", "5 times missing(#, true)",
            "list(0) = 1000000000:1 missing:1", "list(1) = missing:2", "list(2) = missing:2",
            "list(3) = 1000000000:1 missing:1", "list(4) = missing:2");
        s.holds("THE MISSING: of those AT HAND",
            "thing 1: 5", "thing 1: 6", "thing 0: 5; 1: 5", "facet(0, 0, 0, 0)", "facet(0, 1, 0, 0)",
            "missing(0, true)", "enter(1, 0) = 2", "list(0) = 5:1 missing:1", "members(0, 1) = 0");
    }

    private static void leastCount() {
        s.holds("GROUPS with fewer objects than LEAST (1 at first) are not there: as many are, one fewer are not",
            "thing 0: 1 2 3", "thing 0: 2 3", "thing 0: 3", "thing", "thing", "facet(0, 0, 0, 0)", "missing(0, true)",
            "list(0) = 3:3 2:2 1:1 missing:2", "least(0, 1) = 1", "list(0) = 3:3 2:2 1:1 missing:2", "least(0, 2) = 1",
            "list(0) = 3:3 2:2 missing:2", "least(0, 3) = 2", "list(0) = 3:3", "find(0, 2) = NONE", "find(0, 3) = 0",
            "least(0, 4) = 3", "list(0) = nothing", "enter(0, 0) = OUTSIDE");
        s.holds("GROUPS with fewer objects than LEAST: 120 of 120, and 119",
            "120 times object()", "120 times match(#, true)", "119 times value(#, 0, 7)", "facet(0, 0, 0, 0)",
            "least(0, 119)", "list(0) = 7:119", "least(0, 120)", "list(0) = nothing", "value(119, 0, 7) = 1",
            "list(0) = 7:120");
        s.holds("GROUPS with fewer objects than LEAST: those AT HAND are counted",
            "thing 0: 1; 1: 1", "thing 0: 1; 1: 2", "facet(0, 0, 0, 0)", "facet(0, 1, 0, 0)", "least(0, 2)",
            "list(0) = 1:2", "enter(1, 0) = 1", "list(0) = nothing", "leave() = 0", "list(0) = 1:2");
        s.holds("GROUPS with fewer objects than LEAST: those that count are counted",
            "thing 0: 1; 1: 1", "thing 0: 1; 1: 2", "facet(0, 0, 0, 0)", "least(0, 2)", "list(0) = 1:2",
            "filter(0, 1, 1, 1)", "list(0) = nothing", "filter(0, 1, 1, 2)", "list(0) = 1:2");
        s.holds("GROUPS with fewer objects than LEAST: objects, not VALUES",
            "thing 0: 5 5 5", "facet(0, 0, 0, 0)", "least(0, 2)", "list(0) = nothing");
        s.holds("GROUPS with fewer objects than LEAST: the others are numbered without gaps",
            "thing 0: 1", "thing 0: 2", "thing 0: 2", "thing 0: 3", "thing 0: 4", "thing 0: 4", "facet(0, 0, 0, 0)",
            "order(0, 1, 0)", "least(0, 2)", "list(0) = 2:2 4:2", "group(0, 2, 0) = OUTSIDE");
    }

    private static void leastOfEachKind() {
        s.holds("GROUPS with fewer objects than LEAST: of each KIND",
            "thing 0: 123460", "thing 0: 123465", "facet(0, 0, 0, 0)", "facet(1, 0, 0, 0)", "facet(2, 0, 0, 0)",
            "range(2, 0, 999999)", "range(2, 123460, 123460)", "range(2, 5, 5)", "facet(3, 0, 1000, 0)",
            "facet(4, 0, 4, 0)", "5 times least(#, 2)", "list(0) = nothing", "list(1) = 120000:2 123400:2",
            "list(2) = 0:2", "list(3) = 123000:2", "list(4) = 123451:2");
    }

    private static void leastOfTheMissing() {
        s.holds("THE MISSING is a GROUP too: with fewer objects than LEAST it is not there, with as many it is",
            "thing", "thing", "facet(0, 0, 0, 0)", "missing(0, true) = 0", "list(0) = missing:2", "least(0, 2) = 1",
            "list(0) = missing:2", "enter(0, 0) = 2", "least(0, 3) = 2", "list(0) = nothing", "enter(0, 0) = OUTSIDE",
            "in(0, 0, 0) = OUTSIDE", "figure(0, 0, 0, 0) = OUTSIDE", "place(0, 0, 0, 0) = OUTSIDE", "thing",
            "list(0) = missing:3", "match(0, false) = 1", "list(0) = nothing");
        s.holds("THE MISSING is a GROUP too: fewer than LEAST, though other GROUPS are not",
            "thing 0: 5", "thing 0: 5", "thing", "facet(0, 0, 0, 0)", "missing(0, true)", "least(0, 2) = 1",
            "list(0) = 5:2", "group(0, 1, 2) = OUTSIDE", "value(2, 1, 5)", "list(0) = 5:2", "thing",
            "list(0) = 5:2 missing:2");
        s.holds("THE MISSING is a GROUP too: of those AT HAND that count, fewer than LEAST",
            "thing 1: 1", "thing 1: 1 2", "facet(0, 0, 0, 0)", "facet(0, 1, 0, 0)", "missing(0, true)",
            "least(0, 2) = 1", "list(0) = missing:2", "enter(1, 1) = 1", "list(0) = nothing", "leave() = 0",
            "list(0) = missing:2", "filter(0, 1, 2, 2) = 0", "list(0) = nothing", "filter(0, 1, 1, 1) = 1",
            "list(0) = missing:2");
        s.holds("THE MISSING is a GROUP too: of each KIND, 120 of 120, and 119",
            "120 times object()", "119 times match(#, true)", "facet(0, 0, 0, 0)", "facet(1, 0, 0, 0)",
            "facet(2, 0, 0, 0)", "range(2, 0, 9)", "facet(3, 0, 1, 0)", "facet(4, 0, 0, 0)",
            "5 times missing(#, true)", "5 times least(#, 120)", "5 times groups(#) = 0", "match(119, true)",
            "5 times groups(#) = 1", "5 times group(#, 0, 1) = 120", "5 times group(#, 0, 2) = 1");
    }

    private static void orderByCount() {
        s.holds("ORDER of GROUPS: 0 (at first): more objects first; of alike ones the lesser KEY first",
            "thing 0: 30 20", "thing 0: 30 20", "thing 0: 30 -40", "thing 0: 10 50", "facet(0, 0, 0, 0)",
            "list(0) = 30:3 20:2 -40:1 10:1 50:1", "order(0, 0, 0) = 0", "list(0) = 30:3 20:2 -40:1 10:1 50:1");
        s.holds("ORDER 0: more objects, not more VALUES",
            "thing 0: 9 9 9", "thing 0: 5", "thing 0: 5", "facet(0, 0, 0, 0)", "list(0) = 5:2 9:1");
        s.holds("ORDER 0: of alike ones the lesser KEY first, from the least to the greatest",
            "thing 0: 1000000000 0 -1000000000", "thing 0: 1 -1", "facet(0, 0, 0, 0)",
            "list(0) = -1000000000:1 -1:1 0:1 1:1 1000000000:1");
    }

    private static void orderByKey() {
        s.holds("ORDER of GROUPS: 1: by KEY alone",
            "thing 0: 30", "thing 0: 30 -1000000000", "thing 0: 30 1000000000 -5", "thing 0: 0", "facet(0, 0, 0, 0)",
            "order(0, 1, 0) = 0", "list(0) = -1000000000:1 -5:1 0:1 30:3 1000000000:1");
        s.holds("ORDER 1: by KEY alone, KEYS below all VALUES too",
            "thing 0: -1000000000", "thing 0: -1000000000 1000000000", "thing 0: 1000000000", "thing 0: 1000000000",
            "facet(3, 0, 1000000, 1)", "list(0) = 999000001:3 -1000999999:2", "order(0, 1, 0)",
            "list(0) = -1000999999:2 999000001:3");
    }

    private static void orderBySum() {
        s.holds("ORDER of GROUPS: 2: the greater sum of the VALUES that their objects have in a COLUMN first",
            "thing 0: 1; 4: -5", "thing 0: 2; 4: 3", "thing 0: 2; 4: 3", "thing 0: 3; 4: 7 -2", "thing 0: 4",
            "thing 0: 5; 4: -5", "facet(0, 0, 0, 0)", "order(0, 2, 4) = 0", "list(0) = 2:2 3:1 4:1 1:1 5:1");
        s.holds("ORDER 2: of alike ones the lesser KEY first, not the one with more objects",
            "thing 0: 7; 1: 5", "thing 0: 7; 1: 5", "thing 0: -3; 1: 10", "thing 0: 9; 1: 9 1", "facet(0, 0, 0, 0)",
            "order(0, 2, 1)", "list(0) = -3:1 7:2 9:1");
        s.holds("ORDER 2: each object's VALUES once, though two of its VALUES give the KEY",
            "thing 0: 5 5; 1: 10", "thing 0: 6; 1: 15", "facet(0, 0, 0, 0)", "order(0, 2, 1)", "list(0) = 6:1 5:1");
        s.holds("ORDER 2: alike VALUES each by itself",
            "thing 0: 5; 1: 4 4 4", "thing 0: 6; 1: 11", "facet(0, 0, 0, 0)", "order(0, 2, 1)", "list(0) = 5:1 6:1");
        s.holds("ORDER 2: a sum of nothing is 0: behind those above it, ahead of those below",
            "thing 0: 1; 1: -1", "thing 0: 2; 1: 1", "thing 0: 3", "facet(2, 0, 0, 0)", "range(0, 1, 1)",
            "range(0, 9, 9)", "range(0, 2, 2)", "range(0, 3, 3)", "least(0, 0)", "order(0, 2, 1)",
            "list(0) = 2:1 1:0 3:1 0:1");
        s.holds("ORDER 2: in a COLUMN: other columns, other objects and those before clear() do not help",
            "thing 1: 90 90 90", "clear()", "thing 0: 1; 1: 1", "thing 0: 2; 1: 1 1 1; 2: 90", "thing 0: 3; 1: 4",
            "thing 0: 90 90 4; 1: 5", "facet(0, 0, 0, 0)", "order(0, 2, 1)", "list(0) = 4:1 90:1 3:1 2:1 1:1");
        s.holds("ORDER 2: in the last COLUMN of the last object",
            "118 times object()", "thing 0: 1; 5: 4", "thing 0: 2; 5: 1 1 1", "facet(0, 0, 0, 0)", "order(0, 2, 5)",
            "list(0) = 1:1 2:1");
        s.holds("ORDER 2: the VALUES of those AT HAND that count alone",
            "thing 0: 1; 1: 9; 2: 1", "thing 0: 2; 1: 5; 2: 2", "thing 0: 1; 1: -8; 2: 2", "facet(0, 0, 0, 0)",
            "order(0, 2, 1)", "list(0) = 2:1 1:2", "filter(0, 2, 1, 1)", "list(0) = 1:1", "filter(0, 2, 1, 2)",
            "match(2, false)", "list(0) = 1:1 2:1");
    }

    private static void greatSums() {
        s.holds("ORDER 2: sums above what an int holds",
            "thing 0: 1; 1: 1000000000", "thing 0: 2; 1: 1000000000 1000000000 1000000000",
            "thing 0: 3; 1: -1000000000 -1000000000 -1000000000", "thing 0: 4; 1: -1", "facet(0, 0, 0, 0)",
            "order(0, 2, 1)", "list(0) = 2:1 1:1 4:1 3:1", "figure(0, 0, 1, 1) = 3000000000",
            "figure(0, 3, 1, 1) = -3000000000");
        s.holds("ORDER 2: sums of as many VALUES as 512 calls tell",
            "facet(0, 0, 0, 0)", "order(0, 2, 1)", "40 times thing 0: 1; 1: 1000000000 1000000000 1000000000",
            "40 times thing 0: 2; 1: -1000000000 -1000000000 -1000000000", "list(0) = 1:40 2:40",
            "figure(0, 0, 1, 1) = 120000000000", "figure(0, 1, 1, 1) = -120000000000");
    }

    private static void theMissingIsLast() {
        String[] scene = {
            "thing 0: 1; 1: -9", "thing 0: 2; 1: -9", "thing 1: 50", "thing 1: 50", "thing 1: 50", "facet(0, 0, 0, 0)",
            "missing(0, true)",
        };
        s.holds("THE MISSING is always the last one: ORDER 0, though it has more objects", Sentences.join(scene,
            "list(0) = 1:1 2:1 missing:3"));
        s.holds("THE MISSING is always the last one: ORDER 1", Sentences.join(scene,
            "order(0, 1, 0)", "list(0) = 1:1 2:1 missing:3"));
        s.holds("THE MISSING is always the last one: ORDER 2, though it has the greatest sum", Sentences.join(scene,
            "order(0, 2, 1)", "list(0) = 1:1 2:1 missing:3"));
        s.holds("THE MISSING is always the last one: behind RANGES without objects",
            "thing", "facet(2, 0, 0, 0)", "range(0, 0, 0)", "range(0, 1, 1)", "least(0, 0)", "missing(0, true)",
            "list(0) = 0:0 1:0 missing:1", "order(0, 1, 0)", "list(0) = 0:0 1:0 missing:1", "order(0, 2, 0)",
            "list(0) = 0:0 1:0 missing:1");
        s.holds("THE MISSING is always the last one: behind the greatest KEY",
            "thing 0: 1000000000", "thing", "facet(0, 0, 0, 0)", "missing(0, true)", "order(0, 1, 0)",
            "list(0) = 1000000000:1 missing:1");
    }

    private static void groups() {
        s.holds("Promise 12: How many GROUPS there are: none",
            "facet(0, 0, 0, 0)", "groups(0) = 0", "object()", "value(0, 0, 5)", "groups(0) = 0", "match(0, true)",
            "groups(0) = 1", "missing(0, true)", "groups(0) = 1");
        s.holds("Promise 12: How many GROUPS there are: with THE MISSING, of those AT HAND",
            "thing 0: 1 2 3", "thing 0: 3 4 5", "thing", "facet(0, 0, 0, 0)", "missing(0, true)", "groups(0) = 6",
            "enter(0, 0) = 2", "groups(0) = 5", "enter(0, 1) = 1", "groups(0) = 3");
        s.holds("Promise 12: How many GROUPS there are: as many as 512 calls can nearly make",
            manyPaths());
    }

    /** 99 objects with three PATHS each: 9 KEYS an object, of which only those of the first step are shared. */
    private static String[] manyPaths() {
        String[] rows = new String[103];
        rows[0] = "facet(1, 0, 0, 0)";
        for (int k = 0; k < 99; k++) {
            int first = k % 33 + 1;
            String behind = "0" + (k / 33 + 1) + "01";
            rows[k + 1] = "thing 0: " + first + behind + " " + (first + 33) + behind + " " + (first + 66) + behind;
        }
        rows[100] = "groups(0) = " + (99 + 297 + 297);
        rows[101] = "group(0, 98, 1) = 3";
        rows[102] = "group(0, 692, 0) = 990301";
        return rows;
    }

    private static void groupOutside() {
        String[] scene = {
            "thing 0: 5", "thing 0: 6", "thing", "facet(0, 0, 0, 0)", "missing(0, true)", "groups(0) = 3",
        };
        for (String none : new String[] {"-1", "3", "MIN", "MAX", "NONE"}) {
            s.holds("Promise 13: OUTSIDE (no such group): " + none, Sentences.join(scene,
                "group(0, " + none + ", 0) = OUTSIDE", "group(0, " + none + ", 1) = OUTSIDE",
                "group(0, " + none + ", 2) = OUTSIDE", "group(0, 0, 0) = 5", "group(0, 2, 0) = NONE"));
            s.holds("Promise 13: OUTSIDE: what = " + none, Sentences.join(scene,
                "group(0, 0, " + none + ") = OUTSIDE", "group(0, 2, " + none + ") = OUTSIDE"));
            s.holds("Promise 15: OUTSIDE (no such group): " + none, Sentences.join(scene,
                "in(0, " + none + ", 0) = OUTSIDE", "in(0, 0, 0) = 1", "in(0, 2, 2) = 1"));
        }
        s.holds("Promise 13: its KEY (what = 0), how many objects (1), whether it is THE MISSING (2: 1, 0)",
            Sentences.join(scene, "group(0, 0, 0) = 5", "group(0, 0, 1) = 1", "group(0, 0, 2) = 0",
                "group(0, 1, 0) = 6", "group(0, 1, 1) = 1", "group(0, 1, 2) = 0", "group(0, 2, 0) = NONE",
                "group(0, 2, 1) = 1", "group(0, 2, 2) = 1"));
        s.holds("Promise 13: OUTSIDE (no such group): 0 where there is none",
            "facet(0, 0, 0, 0)", "group(0, 0, 0) = OUTSIDE", "group(0, 0, 1) = OUTSIDE", "in(0, 0, 0) = OUTSIDE");
    }

    private static void find() {
        s.holds("Promise 14: The number of the GROUP with a KEY: the first, the last, the least, the greatest",
            "thing 0: -1000000000 1000000000 0", "thing 0: 0", "facet(0, 0, 0, 0)", "find(0, 0) = 0",
            "find(0, -1000000000) = 1", "find(0, 1000000000) = 2", "order(0, 1, 0)", "find(0, -1000000000) = 0",
            "find(0, 0) = 1", "find(0, 1000000000) = 2");
        for (String key : new String[] {"4", "6", "-5", "MIN", "MAX", "NONE", "OUTSIDE", "2000000000", "2000000005"}) {
            s.holds("Promise 14: NONE: there is none: " + key,
                "thing 0: 5", "thing", "facet(0, 0, 0, 0)", "find(0, " + key + ") = NONE", "missing(0, true)",
                "find(0, " + key + ") = NONE", "find(0, 5) = 0");
        }
        s.holds("Promise 14: NONE: there is none: its objects are too few, do not match, do not count, not AT HAND",
            "thing 0: 5", "thing 0: 6", "thing 0: 6; 1: 1", "facet(0, 0, 0, 0)", "find(0, 5) = 1", "least(0, 2)",
            "find(0, 5) = NONE", "find(0, 6) = 0", "least(0, 1)", "match(0, false)", "find(0, 5) = NONE",
            "match(0, true)", "filter(0, 1, 1, 1)", "find(0, 5) = NONE", "filter(0, NONE, 0, 0)", "enter(0, 0) = 2",
            "find(0, 5) = NONE", "leave() = 0", "find(0, 5) = 1");
        s.holds("Promise 14: NONE: there is none: the last GROUP by KEY, and all of them, were there before",
            "thing 0: 5", "thing 0: 6", "facet(0, 0, 0, 0)", "list(0) = 5:1 6:1", "match(1, false)",
            "find(0, 6) = NONE", "find(0, 5) = 0", "match(0, false)", "find(0, 5) = NONE", "find(0, 6) = NONE",
            "match(1, true)", "find(0, 6) = 0", "find(0, 5) = NONE");
        s.holds("Promise 14: a RANGE without objects has a KEY, where LEAST is 0",
            "facet(2, 0, 0, 0)", "range(0, 0, 9)", "range(0, 10, 19)", "thing 0: 10", "find(0, 0) = NONE",
            "find(0, 1) = 0", "least(0, 0)", "find(0, 0) = 1", "find(0, 1) = 0", "find(0, 2) = NONE",
            "find(0, -1) = NONE");
    }

    private static void in() {
        s.holds("Promise 15: Whether an object is in GROUP i: 1, 0",
            "thing 0: 5", "thing 0: 6", "object()", "value(2, 0, 5)", "facet(0, 0, 0, 0)", "in(0, 0, 0) = 1",
            "in(0, 0, 1) = 0", "in(0, 0, 2) = 0", "in(0, 1, 0) = 0", "in(0, 1, 1) = 1", "enter(0, 1) = 1",
            "in(0, 0, 0) = 0", "in(0, 0, 1) = 1", "in(0, 1, 1) = OUTSIDE");
        s.holds("Promise 15: an object that does not count is in no GROUP",
            "thing 0: 5; 1: 1", "thing 0: 5; 1: 2", "thing 1: 2", "facet(0, 0, 0, 0)", "missing(0, true)",
            "filter(0, 1, 2, 2)", "members(0, 0) = 1", "members(0, 1) = 2");
    }
}
