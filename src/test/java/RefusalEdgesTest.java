import java.util.ArrayList;
import java.util.List;

/**
 * "Calls answer, the first of these that fits: OUTSIDE (no such object, column, facet, group; a number that may not
 * be), STATE, ROOM (as they name them); then nothing changes": every refusal of every call, in an object that has
 * something of everything, and in one that is full. Sentences looks behind each refusal whether anything changed.
 */
public final class RefusalEdgesTest {
    private static final String SENTENCE = "Calls answer, the first of these that fits; then nothing changes";
    private static final Sentences s = new Sentences();

    /** 5 objects, of which 4 match; a facet of each KIND, each with other settings; two groups entered. */
    private static final String[] SCENE = {
        "thing 0: 5 6; 1: 123456; 2: 10 40", "thing 0: 5; 1: 120000; 2: -10 20 35", "thing 0: 6 6; 1: 99; 2: 15",
        "thing 2: 3; 3: 9", "object()", "value(4, 0, 5)", "value(4, 2, 5)",
        "facet(0, 0, 0, 0)", "missing(0, true)", "order(0, 2, 2)",
        "facet(1, 1, 0, 0)", "missing(1, true)", "order(1, 1, 0)", "least(1, 0)",
        "facet(2, 2, 0, 0)", "range(2, 0, 15)", "range(2, 16, 30)", "range(2, 100, 200)", "least(2, 0)",
        "facet(3, 2, 10, 3)", "filter(3, 0, 6, 7)",
        "facet(4, 2, 1, 0)", "least(4, 2)", "filter(4, 0, 5, 6)",
        "enter(0, 0) = 2", "enter(2, 0) = 1",
    };
    /** As many objects, facets, RANGES, VALUES of one object and groups entered as there may be. */
    private static final String[] FULL = {
        "120 times object()", "3 times value(0, 0, #)", "3 times value(0, 5, 7)", "3 times value(119, 0, 0)",
        "match(0, true)", "match(119, true)", "match(60, true)", "facet(2, 0, 0, 0)", "6 times range(0, #, 5)",
        "least(0, 0)", "8 times facet(0, 0, 0, 0)", "facet(3, 5, 10, 9)", "missing(1, true)", "missing(9, true)",
        "enter(1, 0) = 2", "5 times enter(0, 0)", "told(3) = 6",
    };

    public static void main(String[] args) {
        everyRefusalAlone();
        allRefusalsOneAfterTheOther();
        whereAllIsFull();
        outsideFirstWhereAllIsFull();
        whereNothingIs();
        s.end();
    }

    /** OUTSIDE with each argument in turn, all others being fine. */
    private static List<String> outside() {
        List<String> calls = new ArrayList<>();
        String[] noObjects = {"-1", "5", "120", "MIN", "MAX"};
        String[] noColumns = {"-1", "6", "MIN", "MAX"};
        String[] noFacets = {"-1", "5", "10", "MIN", "MAX"};
        String[] noGroups = {"-1", "4", "MIN", "MAX"};
        add(calls, "value(?, 0, 1)", noObjects);
        add(calls, "value(0, ?, 1)", noColumns);
        add(calls, "value(0, 3, ?)", "-1000000001", "1000000001", "MIN", "MAX");
        add(calls, "match(?, true)", noObjects);
        add(calls, "match(?, false)", noObjects);
        add(calls, "facet(?, 0, 1, 0)", "-1", "5", "MIN", "MAX");
        add(calls, "facet(0, ?, 0, 0)", noColumns);
        add(calls, "facet(3, 0, ?, 0)", "-1", "0", "1000001", "MIN", "MAX");
        add(calls, "facet(3, 0, 7, ?)", "-1", "7", "MIN", "MAX");
        add(calls, "facet(4, 0, ?, 0)", "-1", "5", "MIN", "MAX");
        add(calls, "range(?, 0, 1)", noFacets);
        add(calls, "range(2, ?, 0)", "1", "-1000000001", "MIN", "MAX");
        add(calls, "range(2, 0, ?)", "-1", "1000000001", "MIN", "MAX");
        add(calls, "filter(?, 0, 0, 1)", noFacets);
        add(calls, "filter(?, NONE, 0, 1)", noFacets);
        add(calls, "filter(3, ?, 0, 1)", noColumns);
        add(calls, "filter(3, 0, ?)", "1, 0", "MAX, MIN", "0, MIN", "MAX, 0");
        add(calls, "least(?, 0)", noFacets);
        add(calls, "least(0, ?)", "-1", "121", "MIN", "MAX");
        add(calls, "missing(?, true)", noFacets);
        add(calls, "missing(?, false)", noFacets);
        add(calls, "order(?, 1, 0)", noFacets);
        add(calls, "order(0, ?, 0)", "-1", "3", "MIN", "MAX");
        add(calls, "order(0, 2, ?)", noColumns);
        add(calls, "groups(?)", noFacets);
        add(calls, "group(?, 0, 0)", noFacets);
        add(calls, "group(0, ?, 0)", noGroups);
        add(calls, "group(0, 0, ?)", "-1", "3", "MIN", "MAX");
        add(calls, "find(?, 5)", noFacets);
        add(calls, "in(?, 0, 0)", noFacets);
        add(calls, "in(0, ?, 0)", noGroups);
        add(calls, "in(0, 0, ?)", noObjects);
        add(calls, "enter(?, 0)", noFacets);
        add(calls, "enter(0, ?)", noGroups);
        add(calls, "figure(?, 0, 0, 0)", noFacets);
        add(calls, "figure(0, ?, 0, 0)", noGroups);
        add(calls, "figure(0, 0, ?, 0)", noColumns);
        add(calls, "figure(0, NONE, ?, 0)", noColumns);
        add(calls, "figure(0, 0, 0, ?)", "-1", "5", "MIN", "MAX");
        add(calls, "figure(0, NONE, 0, ?)", "-1", "5", "MIN", "MAX");
        add(calls, "place(?, 0, 0, 50)", noFacets);
        add(calls, "place(0, ?, 0, 50)", noGroups);
        add(calls, "place(0, 0, ?, 50)", noColumns);
        add(calls, "place(0, NONE, ?, 50)", noColumns);
        add(calls, "place(0, 0, 0, ?)", "-1", "101", "MIN", "MAX");
        add(calls, "place(0, NONE, 0, ?)", "-1", "101", "MIN", "MAX");
        add(calls, "told(?)", "-1", "4", "MIN", "MAX");
        return calls;
    }

    private static void add(List<String> calls, String pattern, String... numbers) {
        for (String number : numbers) {
            calls.add(pattern.replace("?", number) + " = OUTSIDE");
        }
    }

    private static void everyRefusalAlone() {
        for (String refused : outside()) {
            s.holds(SENTENCE + ": OUTSIDE", Sentences.join(SCENE, refused));
        }
        for (int facet : new int[] {0, 1, 3, 4}) {
            s.holds(SENTENCE + ": STATE", Sentences.join(SCENE, "range(" + facet + ", 0, 1) = STATE"));
        }
        s.holds(SENTENCE + ": STATE", Sentences.join(SCENE, "leave() = 1", "leave() = 0", "leave() = STATE"));
        s.holds(SENTENCE + ": ROOM", Sentences.join(SCENE,
            "value(1, 2, 1) = ROOM", "3 times range(2, 0, 1)", "enter(0, 0) = 2", "range(2, 0, 1) = ROOM",
            "5 times enter(2, 0)", "enter(2, 0) = ROOM"));
    }

    private static void allRefusalsOneAfterTheOther() {
        s.holds(SENTENCE + ": all one after the other", Sentences.join(SCENE, outside().toArray(new String[0])));
        s.holds(SENTENCE + ": what they would have changed is as before", Sentences.join(
            Sentences.join(SCENE, outside().toArray(new String[0])),
            "told(0) = 5", "told(1) = 4", "told(2) = 5", "told(3) = 2", "hand() = 1", "leave() = 1", "hand() = 2",
            "leave() = 0", "list(0) = 5:2 6:2 missing:1", "list(1) = 120000:2 123400:1 123456:1 missing:2",
            "list(2) = 0:3 1:1 2:0", "list(3) = 3:1 13:1 33:1", "list(4) = nothing"));
    }

    private static void whereAllIsFull() {
        for (String refused : new String[] {
            "object()", "value(0, 0, 7)", "value(0, 5, 7)", "value(119, 0, 7)", "facet(0, 0, 0, 0)",
            "facet(2, 5, 9, 9)", "facet(3, 0, 1, 0)", "facet(4, 0, 4, 0)", "range(0, 0, 1)", "enter(0, 0)",
            "enter(0, 5)", "enter(1, 0)"}) {
            s.holds(SENTENCE + ": ROOM", Sentences.join(FULL, refused + " = ROOM"));
        }
        s.holds(SENTENCE + ": STATE where others are full", Sentences.join(FULL,
            "range(1, 0, 1) = STATE", "range(9, 0, 1) = STATE"));
    }

    private static void outsideFirstWhereAllIsFull() {
        for (String refused : new String[] {
            "value(0, 0, 1000000001)", "value(0, 0, -1000000001)", "value(0, 6, 7)", "value(120, 0, 7)",
            "facet(5, 0, 0, 0)", "facet(0, 6, 0, 0)", "facet(3, 0, 0, 0)", "facet(3, 0, 5, 5)", "facet(4, 0, 5, 0)",
            "range(0, 1, 0)", "range(0, 0, 1000000001)", "range(0, -1000000001, 0)", "range(10, 0, 1)",
            "range(1, 1, 0)", "range(1, -1000000001, 1000000001)", "enter(0, 6)", "enter(0, -1)", "enter(1, 4)",
            "enter(10, 0)"}) {
            s.holds(SENTENCE + ": OUTSIDE where ROOM or STATE would fit too", Sentences.join(FULL,
                refused + " = OUTSIDE"));
        }
    }

    private static void whereNothingIs() {
        for (String refused : new String[] {
            "value(0, 0, 0)", "match(0, true)", "range(0, 0, 0)", "filter(0, 0, 0, 0)", "filter(0, NONE, 0, 0)",
            "least(0, 1)", "missing(0, true)", "order(0, 0, 0)", "groups(0)", "group(0, 0, 0)", "find(0, 0)",
            "in(0, 0, 0)", "enter(0, 0)", "figure(0, 0, 0, 0)", "place(0, 0, 0, 0)", "told(4)",
            "figure(0, NONE, 6, 0)", "place(0, NONE, 0, 101)"}) {
            s.holds(SENTENCE + ": OUTSIDE of a new object", refused + " = OUTSIDE", "told(0) = 0", "told(2) = 0");
        }
        s.holds(SENTENCE + ": STATE of a new object", "leave() = STATE");
    }
}
