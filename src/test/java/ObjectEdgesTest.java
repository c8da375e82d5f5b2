/** The edges that the document's part 1 (OBJECTS) and promises 1 to 5 and 21 name, sentence by sentence. */
public final class ObjectEdgesTest {
    private static final Sentences s = new Sentences();
    private static final String[] NO_COLUMNS = {"-1", "6", "MIN", "MAX", "OUTSIDE"};

    public static void main(String[] args) {
        objects();
        noSuchObject();
        calls();
        columns();
        values();
        matching();
        newObject();
        object();
        value();
        match();
        clear();
        clearedObjectsAndFacets();
        told();
        s.end();
    }

    private static void objects() {
        s.holds("1 OBJECTS, 120 at most, are numbered from 0 on: the first and the last one, and none behind it",
            "object() = 0", "told(0) = 1",
            "118 times object()", "object() = 119", "object() = ROOM", "object() = ROOM", "told(0) = 120");
        s.holds("1 OBJECTS are numbered from 0 on: each is the next number",
            "120 times object() = #");
        s.holds("1 OBJECTS, 120 at most: the last one is as good as the first",
            "120 times object()", "value(119, 5, 7) = 1", "match(119, true) = 0", "facet(0, 5, 0, 0) = 0",
            "list(0) = 7:1", "in(0, 0, 119) = 1", "in(0, 0, 0) = 0", "hand() = 1");
    }

    private static void noSuchObject() {
        for (String none : new String[] {"-1", "2", "119", "120", "MIN", "MAX", "NONE"}) {
            s.holds("OUTSIDE (no such object): " + none + " of two",
                "thing 0: 5", "thing 0: 5", "facet(0, 0, 0, 0)", "enter(0, 0) = 2",
                "value(" + none + ", 0, 1) = OUTSIDE", "match(" + none + ", true) = OUTSIDE",
                "match(" + none + ", false) = OUTSIDE", "in(0, 0, " + none + ") = OUTSIDE",
                "in(0, 0, 0) = 1", "in(0, 0, 1) = 1");
        }
        s.holds("OUTSIDE (no such object): 120 of 120",
            "120 times object()", "match(0, true)", "value(0, 0, 1)", "facet(0, 0, 0, 0)",
            "value(120, 0, 1) = OUTSIDE", "match(120, true) = OUTSIDE", "in(0, 0, 120) = OUTSIDE", "in(0, 0, 119) = 0");
    }

    private static void calls() {
        s.holds("An object is used for at most 512 calls: the 512th is still answered",
            "120 times object() = #", "391 times object() = ROOM", "told(0) = 120");
        s.holds("An object is used for at most 512 calls: the 512th still changes and tells",
            "object() = 0", "match(0, true) = 0", "3 times value(0, 0, 5)", "facet(0, 0, 0, 0) = 0",
            "505 times groups(0) = 1", "figure(0, 0, 0, 1) = 15");
    }

    private static void columns() {
        s.holds("There are 6 COLUMNS, 0 .. 5: the first and the last one",
            "thing 0: 1; 5: 2", "facet(0, 0, 0, 0) = 0", "facet(0, 5, 0, 0) = 1", "list(0) = 1:1", "list(1) = 2:1",
            "filter(0, 0, 1, 1) = 0", "filter(1, 5, 2, 2) = 0", "order(0, 2, 0) = 0", "order(1, 2, 5) = 0",
            "list(0) = 1:1", "list(1) = 2:1", "figure(0, NONE, 0, 1) = 1", "figure(0, NONE, 5, 1) = 2",
            "figure(0, 0, 0, 1) = 1", "figure(0, 0, 5, 1) = 2", "place(0, NONE, 0, 50) = 1",
            "place(0, NONE, 5, 50) = 2", "place(0, 0, 0, 50) = 1", "place(0, 0, 5, 50) = 2");
        s.holds("There are 6 COLUMNS: each by itself",
            "thing 0: 10; 1: 11; 2: 12; 3: 13; 4: 14; 5: 15", "6 times facet(0, #, 0, 0) = #",
            "6 times figure(0, NONE, #, 0) = 1", "list(0) = 10:1", "list(1) = 11:1", "list(2) = 12:1",
            "list(3) = 13:1", "list(4) = 14:1", "list(5) = 15:1");
        for (String none : NO_COLUMNS) {
            s.holds("OUTSIDE (no such column): " + none,
                "thing 0: 1; 5: 2", "facet(0, 0, 0, 0) = 0", "enter(0, 0) = 1",
                "value(0, " + none + ", 1) = OUTSIDE", "facet(0, " + none + ", 0, 0) = OUTSIDE",
                "facet(3, " + none + ", 1, 0) = OUTSIDE", "filter(0, " + none + ", 1, 1) = OUTSIDE",
                "order(0, 2, " + none + ") = OUTSIDE", "figure(0, NONE, " + none + ", 0) = OUTSIDE",
                "figure(0, 0, " + none + ", 0) = OUTSIDE", "place(0, NONE, " + none + ", 50) = OUTSIDE",
                "place(0, 0, " + none + ", 50) = OUTSIDE");
        }
        s.holds("OUTSIDE (no such column): NONE is none either, but for filter",
            "thing 0: 1", "facet(0, 0, 0, 0) = 0", "value(0, NONE, 1) = OUTSIDE", "facet(0, NONE, 0, 0) = OUTSIDE",
            "order(0, 2, NONE) = OUTSIDE", "figure(0, NONE, NONE, 0) = OUTSIDE", "figure(0, 0, NONE, 0) = OUTSIDE",
            "place(0, NONE, NONE, 50) = OUTSIDE", "place(0, 0, NONE, 50) = OUTSIDE", "filter(0, NONE, 1, 1) = 0");
    }

    private static void values() {
        s.holds("in each an object has up to 3 VALUES: the third, and not a fourth",
            "thing", "value(0, 0, 7) = 1", "value(0, 0, 8) = 2", "value(0, 0, 9) = 3", "value(0, 0, 10) = ROOM",
            "figures(0, NONE, 0) = 3 24 7 9 3");
        s.holds("in each an object has up to 3 VALUES: each column has room of its own",
            "thing", "3 times value(0, 0, 7)", "3 times value(0, 1, 7)", "3 times value(0, 2, 7)",
            "3 times value(0, 3, 7)", "3 times value(0, 4, 7)", "3 times value(0, 5, 7)",
            "6 times value(0, #, 7) = ROOM", "6 times figure(0, NONE, #, 1) = 21");
        s.holds("in each an object has up to 3 VALUES: each object has room of its own",
            "thing 0: 1 2 3", "thing", "value(0, 0, 4) = ROOM", "value(1, 0, 4) = 1", "value(1, 0, 5) = 2",
            "value(1, 0, 6) = 3", "value(1, 0, 7) = ROOM");
        s.holds("VALUES (-1000000000 .. 1000000000): the least and the greatest",
            "thing", "value(0, 0, -1000000000) = 1", "value(0, 0, 1000000000) = 2",
            "figures(0, NONE, 0) = 2 0 -1000000000 1000000000 2");
        for (String none : new String[] {"-1000000001", "1000000001", "MIN", "MAX", "NONE", "2000000000"}) {
            s.holds("VALUES (-1000000000 .. 1000000000): not " + none,
                "thing 0: 5", "value(0, 0, " + none + ") = OUTSIDE", "figures(0, NONE, 0) = 1 5 5 5 1",
                "value(0, 0, 6) = 2");
        }
        s.holds("VALUES, in the order in which they were told (also alike ones): each counts",
            "thing 0: 5 5", "value(0, 0, 5) = 3", "value(0, 0, 5) = ROOM", "figures(0, NONE, 0) = 3 15 5 5 1");
    }

    private static void matching() {
        s.holds("Some objects MATCH (none at first)",
            "120 times object()", "told(1) = 0", "hand() = 0", "120 times match(#, false) = 0", "told(1) = 0");
        s.holds("Some objects MATCH (none at first): a new one does not, though others do",
            "thing", "thing", "object() = 2", "told(1) = 2", "hand() = 2", "match(2, true) = 0");
        s.holds("Some objects MATCH: none has a GROUP or a FIGURE without that",
            "object()", "value(0, 0, 5)", "facet(0, 0, 0, 0)", "missing(0, true)", "least(0, 0)", "list(0) = nothing",
            "figures(0, NONE, 0) = 0 0 NONE NONE 0", "place(0, NONE, 0, 50) = NONE");
    }

    private static void newObject() {
        s.holds("Promise 1: No objects, no facets",
            "told(0) = 0", "told(1) = 0", "told(2) = 0", "told(3) = 0", "hand() = 0",
            "value(0, 0, 0) = OUTSIDE", "match(0, true) = OUTSIDE", "range(0, 0, 0) = OUTSIDE",
            "filter(0, NONE, 0, 0) = OUTSIDE", "least(0, 1) = OUTSIDE", "missing(0, true) = OUTSIDE",
            "order(0, 0, 0) = OUTSIDE", "groups(0) = OUTSIDE", "group(0, 0, 0) = OUTSIDE", "find(0, 0) = OUTSIDE",
            "in(0, 0, 0) = OUTSIDE", "enter(0, 0) = OUTSIDE", "leave() = STATE", "figure(0, 0, 0, 0) = OUTSIDE",
            "place(0, 0, 0, 0) = OUTSIDE", "figures(0, NONE, 0) = 0 0 NONE NONE 0", "place(0, NONE, 0, 0) = NONE",
            "object() = 0", "facet(0, 0, 0, 0) = 0");
        String alone = "Promise 1: A new object has nothing of another one";
        FacetFigures full = new FacetFigures();
        Scene.matching(full, 0, 5, 6, 7);
        full.facet(Scene.WORDS, 0, 0, 0);
        full.enter(0, 0);
        FacetFigures other = new FacetFigures();
        for (int what = 0; what <= 3; what++) {
            s.due(alone, other.told(what), 0);
        }
        other.object();
        other.clear();
        s.due(alone, full.told(3), 1);
        s.due(alone, full.hand(), 1);
    }

    private static void object() {
        s.holds("Promise 2: One more object: its number",
            "object() = 0", "told(0) = 1", "object() = 1", "told(0) = 2", "clear() = 2", "object() = 0");
        s.holds("Promise 2: ROOM, whatever the objects hold and whether they match",
            "119 times object()", "thing 0: 5", "object() = ROOM", "told(0) = 120", "told(1) = 1");
    }

    private static void value() {
        s.holds("Promise 3: how many it has in that column, not in all",
            "object()", "value(0, 0, 1) = 1", "value(0, 0, 1) = 2", "value(0, 1, 1) = 1", "value(0, 0, 1) = 3",
            "value(0, 1, 1) = 2");
        s.holds("Promise 3: a VALUE of an object that does not match is kept until it does",
            "object()", "value(0, 0, 5) = 1", "figure(0, NONE, 0, 0) = 0", "match(0, true) = 0",
            "figure(0, NONE, 0, 1) = 5");
        for (String outside : new String[] {
            "value(1, 0, 5)", "value(-1, 0, 5)", "value(0, 6, 5)", "value(0, -1, 5)", "value(0, 0, 1000000001)",
            "value(0, 0, -1000000001)"}) {
            s.holds("Promise 3: OUTSIDE ahead of ROOM: it has 3",
                "thing 0: 1 2 3", "value(0, 0, 5) = ROOM", outside + " = OUTSIDE", "value(0, 0, 5) = ROOM");
        }
    }

    private static void match() {
        s.holds("Promise 4: from now on: whether it did: 1, 0",
            "object()", "match(0, true) = 0", "hand() = 1", "match(0, true) = 1", "hand() = 1", "match(0, false) = 1",
            "hand() = 0", "match(0, false) = 0", "hand() = 0", "match(0, true) = 0", "hand() = 1");
        s.holds("Promise 4: of that object alone",
            "object()", "object()", "match(1, true) = 0", "match(0, false) = 0", "match(1, true) = 1", "told(1) = 1");
        s.holds("Promise 4: all match, and none again",
            "120 times object()", "120 times match(#, true) = 0", "told(1) = 120", "hand() = 120",
            "120 times match(#, false) = 1", "told(1) = 0", "hand() = 0");
    }

    private static void clear() {
        s.holds("Promise 5: how many objects there were: none",
            "clear() = 0", "clear() = 0", "facet(0, 0, 0, 0) = 0", "clear() = 0", "told(2) = 0");
        s.holds("Promise 5: how many objects there were: all, and room for as many again",
            "120 times object()", "clear() = 120", "told(0) = 0", "120 times object() = #", "object() = ROOM",
            "clear() = 120", "clear() = 0");
        s.holds("Promise 5: room for as many facets again",
            "10 times facet(0, 0, 0, 0)", "facet(0, 0, 0, 0) = ROOM", "clear() = 0", "10 times facet(0, 0, 0, 0) = #",
            "facet(0, 0, 0, 0) = ROOM");
        s.holds("Promise 5: There are no objects and facets then",
            "thing 0: 5 6 7", "thing 0: 5", "object()", "facet(0, 0, 0, 0)", "facet(2, 0, 0, 0)", "enter(0, 0) = 2",
            "clear() = 3", "told(0) = 0", "told(1) = 0", "told(2) = 0", "told(3) = 0", "hand() = 0", "leave() = STATE",
            "groups(0) = OUTSIDE", "match(0, true) = OUTSIDE", "value(0, 0, 5) = OUTSIDE", "range(1, 0, 1) = OUTSIDE",
            "figures(0, NONE, 0) = 0 0 NONE NONE 0", "object() = 0", "facet(0, 0, 0, 0) = 0");
    }

    private static void clearedObjectsAndFacets() {
        s.holds("Promise 5: objects of the same number then have no VALUES and do not match",
            "thing 0: 1 2 3; 1: 4 5 6; 5: 7", "thing 2: 8 9 10", "clear() = 2", "object() = 0", "object() = 1",
            "told(1) = 0", "match(0, true) = 0", "match(1, true) = 0", "6 times figure(0, NONE, #, 0) = 0",
            "6 times value(0, #, 3) = 1", "6 times value(1, #, 3) = 1");
        s.holds("Promise 5: a facet of the same number then has nothing of the one before",
            "object()", "facet(2, 0, 0, 0)", "6 times range(0, 0, 9)", "filter(0, 0, 0, 0) = 0", "least(0, 0) = 1",
            "missing(0, true) = 0", "order(0, 2, 3) = 0", "clear() = 1", "facet(2, 1, 0, 0) = 0", "thing",
            "value(0, 1, 5)", "groups(0) = 0", "range(0, 5, 5) = 0", "list(0) = 0:1", "filter(0, 0, 0, 0) = 0",
            "least(0, 0) = 1", "missing(0, true) = 0", "order(0, 2, 3) = 0");
        s.holds("Promise 5: a facet without RANGES then has no groups of the RANGES before",
            "facet(2, 0, 0, 0)", "6 times range(0, 0, 9)", "least(0, 0)", "groups(0) = 6", "clear() = 0",
            "facet(0, 0, 0, 0) = 0", "least(0, 0) = 1", "groups(0) = 0");
    }

    private static void told() {
        s.holds("Promise 21: How many: nothing there",
            "4 times told(#) = 0");
        s.holds("Promise 21: How many: all there",
            "120 times object()", "120 times match(#, true)", "10 times facet(0, 0, 0, 0)", "missing(0, true)",
            "6 times enter(0, 0) = 120", "told(0) = 120", "told(1) = 120", "told(2) = 10", "told(3) = 6");
        s.holds("Promise 21: objects that MATCH, also those that are not AT HAND",
            "thing 0: 1", "thing 0: 2", "thing 0: 2", "object()", "facet(0, 0, 0, 0)", "enter(0, 1) = 1",
            "told(0) = 4", "told(1) = 3", "told(2) = 1", "told(3) = 1");
        for (String none : new String[] {"-1", "4", "MIN", "MAX", "NONE"}) {
            s.holds("Promise 21: OUTSIDE: what = " + none,
                "thing 0: 1", "facet(0, 0, 0, 0)", "enter(0, 0) = 1", "told(" + none + ") = OUTSIDE");
        }
    }
}
