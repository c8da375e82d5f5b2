/** The edges that the document's part 2 (FACETS) and promises 6 to 11 name for a facet's settings. */
public final class FacetEdgesTest {
    private static final Sentences s = new Sentences();

    public static void main(String[] args) {
        facets();
        noSuchFacet();
        kinds();
        numbersOfSteps();
        numbersOfCalendar();
        numbersThatAreNotLookedAt();
        facetRefusedTwice();
        ranges();
        rangesOutside();
        rangesRefusedTwice();
        filters();
        filtersOutside();
        leasts();
        missing();
        orders();
        s.end();
    }

    private static void facets() {
        s.holds("2 FACETS, 10 at most, are numbered from 0 on",
            "10 times facet(0, 0, 0, 0) = #", "facet(0, 0, 0, 0) = ROOM", "facet(4, 5, 4, 0) = ROOM", "told(2) = 10");
        s.holds("2 FACETS, 10 at most: the last one is as good as the first",
            "thing 0: 5", "9 times facet(0, 1, 0, 0)", "facet(2, 0, 0, 0) = 9", "range(9, 5, 5) = 0", "list(9) = 0:1",
            "filter(9, 0, 5, 5) = 0", "least(9, 1) = 1", "missing(9, true) = 0", "order(9, 1, 0) = 0",
            "find(9, 0) = 0", "in(9, 0, 0) = 1", "figure(9, 0, 0, 1) = 5", "place(9, 0, 0, 0) = 5", "enter(9, 0) = 1",
            "list(0) = nothing");
        s.holds("2 FACETS: each has settings of its own",
            "thing 0: 5", "thing 1: 6", "facet(0, 0, 0, 0)", "facet(0, 0, 0, 0)", "facet(2, 0, 0, 0)",
            "facet(2, 0, 0, 0)", "range(2, 0, 9) = 0", "range(3, 9, 9) = 0", "range(3, 5, 5) = 1",
            "missing(0, true) = 0", "least(3, 0) = 1", "order(3, 1, 0) = 0", "filter(1, 1, 6, 6) = 0",
            "list(0) = 5:1 missing:1", "list(1) = nothing", "list(2) = 0:1", "list(3) = 0:0 1:1");
    }

    private static void noSuchFacet() {
        for (String none : new String[] {"-1", "1", "9", "10", "MIN", "MAX", "NONE"}) {
            s.holds("OUTSIDE (no such facet): " + none + " of one",
                "thing 0: 5", "facet(2, 0, 0, 0) = 0", "range(0, 5, 5) = 0", "enter(0, 0) = 1",
                "range(" + none + ", 0, 1) = OUTSIDE", "filter(" + none + ", 0, 0, 1) = OUTSIDE",
                "filter(" + none + ", NONE, 0, 1) = OUTSIDE", "least(" + none + ", 0) = OUTSIDE",
                "missing(" + none + ", true) = OUTSIDE", "missing(" + none + ", false) = OUTSIDE",
                "order(" + none + ", 1, 0) = OUTSIDE", "groups(" + none + ") = OUTSIDE",
                "group(" + none + ", 0, 0) = OUTSIDE", "find(" + none + ", 0) = OUTSIDE",
                "in(" + none + ", 0, 0) = OUTSIDE", "enter(" + none + ", 0) = OUTSIDE",
                "figure(" + none + ", 0, 0, 0) = OUTSIDE", "place(" + none + ", 0, 0, 50) = OUTSIDE");
        }
        s.holds("OUTSIDE (no such facet): 10 of 10",
            "10 times facet(0, 0, 0, 0)", "groups(9) = 0", "groups(10) = OUTSIDE", "least(9, 1) = 1",
            "least(10, 1) = OUTSIDE");
    }

    private static void kinds() {
        s.holds("each has a KIND: 0 to 4",
            "5 times facet(#, 0, 1, 0) = #");
        for (String none : new String[] {"-1", "5", "MIN", "MAX", "NONE"}) {
            s.holds("OUTSIDE: KIND " + none,
                "thing 0: 5", "facet(0, 0, 0, 0) = 0", "enter(0, 0) = 1", "facet(" + none + ", 0, 1, 0) = OUTSIDE",
                "told(2) = 1", "facet(0, 0, 0, 0) = 1");
        }
    }

    private static void numbersOfSteps() {
        s.holds("3 STEPS: a 1 .. 1000000: the first and the last",
            "facet(3, 0, 1, 0) = 0", "facet(3, 0, 1000000, 0) = 1");
        for (String none : new String[] {"0", "-1", "1000001", "MIN", "MAX"}) {
            s.holds("3 STEPS: a 1 .. 1000000: not " + none,
                "facet(3, 0, " + none + ", 0) = OUTSIDE", "told(2) = 0", "facet(3, 0, 1, 0) = 0");
        }
        s.holds("3 STEPS: b 0 .. a - 1: the first and the last",
            "facet(3, 0, 10, 0) = 0", "facet(3, 0, 10, 9) = 1", "facet(3, 0, 1, 0) = 2", "facet(3, 0, 2, 1) = 3",
            "facet(3, 0, 1000000, 999999) = 4");
        String[] none = {"10, -1", "10, 10", "1, 1", "1, -1", "1000000, 1000000", "10, MIN", "10, MAX", "10, NONE"};
        for (String numbers : none) {
            s.holds("3 STEPS: b 0 .. a - 1: not " + numbers,
                "facet(3, 0, " + numbers + ") = OUTSIDE", "told(2) = 0", "facet(3, 0, 1, 0) = 0");
        }
    }

    private static void numbersOfCalendar() {
        s.holds("4 CALENDAR: a = 0 to 4",
            "5 times facet(4, 0, #, 0) = #");
        for (String none : new String[] {"-1", "5", "MIN", "MAX", "NONE"}) {
            s.holds("4 CALENDAR: not a = " + none,
                "facet(4, 0, " + none + ", 0) = OUTSIDE", "told(2) = 0", "facet(4, 0, 0, 0) = 0");
        }
    }

    private static void numbersThatAreNotLookedAt() {
        for (String numbers : new String[] {"0, 0", "-1, -1", "MIN, MAX", "MAX, MIN", "1000001, 1000001"}) {
            s.holds("b is not looked at but for STEPS, a but for STEPS, CALENDAR: " + numbers,
                "thing 0: 123400", "facet(0, 0, " + numbers + ") = 0", "facet(1, 0, " + numbers + ") = 1",
                "facet(2, 0, " + numbers + ") = 2", "range(2, 0, 123400) = 0", "list(0) = 123400:1",
                "list(1) = 120000:1 123400:1", "list(2) = 0:1");
        }
        for (String b : new String[] {"-1", "1", "5", "MIN", "MAX"}) {
            s.holds("b is not looked at but for STEPS: CALENDAR, b = " + b,
                "thing 0: 40", "5 times facet(4, 0, #, " + b + ") = #", "list(0) = 40:1", "list(1) = 39:1",
                "list(2) = 31:1", "list(3) = 0:1", "list(4) = 0:1");
        }
    }

    private static void facetRefusedTwice() {
        String[] outside = {
            "facet(-1, 0, 1, 0)", "facet(5, 0, 1, 0)", "facet(0, -1, 0, 0)", "facet(0, 6, 0, 0)", "facet(3, 0, 0, 0)",
            "facet(3, 0, 1000001, 0)", "facet(3, 0, 10, 10)", "facet(3, 0, 10, -1)", "facet(4, 0, -1, 0)",
            "facet(4, 0, 5, 0)",
        };
        for (String call : outside) {
            s.holds("Promise 6: OUTSIDE ahead of ROOM",
                "10 times facet(0, 0, 0, 0)", call + " = OUTSIDE", "facet(0, 0, 0, 0) = ROOM", "told(2) = 10");
        }
    }

    private static void ranges() {
        s.holds("RANGES (6 at most): Promise 7: its number, from 0 on; ROOM",
            "facet(2, 0, 0, 0)", "6 times range(0, #, 9) = #", "range(0, 0, 9) = ROOM", "range(0, 6, 9) = ROOM",
            "least(0, 0)", "groups(0) = 6");
        s.holds("RANGES (6 at most): of each facet, and alike ones too",
            "facet(2, 0, 0, 0)", "facet(2, 0, 0, 0)", "6 times range(0, 5, 5) = #", "range(0, 5, 5) = ROOM",
            "6 times range(1, 5, 5) = #", "range(1, 5, 5) = ROOM");
        s.holds("Promise 7: FROM and TO may be alike, the least VALUE, the greatest",
            "thing 0: -1000000000", "thing 0: 1000000000", "thing 0: 7", "facet(2, 0, 0, 0)", "order(0, 1, 0)",
            "range(0, -1000000000, 1000000000) = 0", "range(0, -1000000000, -1000000000) = 1",
            "range(0, 1000000000, 1000000000) = 2", "range(0, 7, 7) = 3", "list(0) = 0:3 1:1 2:1 3:1");
    }

    private static void rangesOutside() {
        String[] outside = {
            "8, 7", "1000000000, -1000000000", "-1000000001, 0", "0, 1000000001", "-1000000001, -1000000001",
            "1000000001, 1000000001", "MIN, MAX", "MIN, 0", "0, MAX", "MAX, MIN", "NONE, 0",
        };
        for (String numbers : outside) {
            s.holds("Promise 7: OUTSIDE: also when FROM is above TO, or one is no VALUE: " + numbers,
                "thing 0: 7", "facet(2, 0, 0, 0)", "range(0, 7, 7) = 0", "enter(0, 0) = 1",
                "range(0, " + numbers + ") = OUTSIDE", "told(3) = 1", "range(0, 7, 7) = 1");
        }
        for (int kind : new int[] {0, 1, 3, 4}) {
            s.holds("Promise 7: STATE: the facet is not of KIND 2, but " + kind,
                "thing 0: 10000", "facet(" + kind + ", 0, 1, 0)", "facet(2, 0, 0, 0)", "enter(0, 0) = 1",
                "range(0, 7, 7) = STATE", "range(0, -1000000000, 1000000000) = STATE", "told(3) = 1",
                "range(1, 7, 7) = 0");
        }
    }

    private static void rangesRefusedTwice() {
        for (String numbers : new String[] {"8, 7", "-1000000001, 0", "0, 1000000001", "1000000001, -1000000001"}) {
            s.holds("Promise 7: OUTSIDE ahead of STATE: " + numbers,
                "facet(0, 0, 0, 0)", "range(0, " + numbers + ") = OUTSIDE", "range(0, 7, 7) = STATE");
            s.holds("Promise 7: OUTSIDE ahead of ROOM: " + numbers,
                "facet(2, 0, 0, 0)", "6 times range(0, 7, 7)", "range(0, " + numbers + ") = OUTSIDE",
                "range(0, 7, 7) = ROOM");
        }
        s.holds("Promise 7: OUTSIDE (no such facet) ahead of ROOM and STATE of the others",
            "facet(2, 0, 0, 0)", "facet(0, 0, 0, 0)", "6 times range(0, 7, 7)", "range(2, 7, 7) = OUTSIDE",
            "range(-1, 7, 7) = OUTSIDE", "range(0, 7, 7) = ROOM", "range(1, 7, 7) = STATE");
    }

    private static void filters() {
        s.holds("Promise 8: 1: it had one; 0: column NONE: it has none",
            "thing 0: 5; 1: 6", "facet(0, 0, 0, 0)", "filter(0, NONE, 0, 0) = 0", "filter(0, 1, 7, 7) = 0",
            "groups(0) = 0", "filter(0, 1, 6, 6) = 1", "groups(0) = 1", "filter(0, 1, 7, 7) = 1", "groups(0) = 0",
            "filter(0, NONE, 0, 0) = 1", "groups(0) = 1", "filter(0, NONE, 0, 0) = 0", "filter(0, 0, 0, 0) = 0");
        s.holds("Promise 8: any numbers",
            "thing 0: -1000000000", "thing 0: 1000000000", "thing 0: 0", "facet(0, 0, 0, 0)", "order(0, 1, 0)",
            "filter(0, 0, MIN, MAX) = 0", "list(0) = -1000000000:1 0:1 1000000000:1", "filter(0, 0, MIN, MIN) = 1",
            "list(0) = nothing", "filter(0, 0, MAX, MAX) = 1", "list(0) = nothing",
            "filter(0, 0, MIN, -1000000000) = 1", "list(0) = -1000000000:1", "filter(0, 0, 1000000000, MAX) = 1",
            "list(0) = 1000000000:1", "filter(0, 0, MIN, -1000000001) = 1", "list(0) = nothing",
            "filter(0, 0, 1000000001, MAX) = 1", "list(0) = nothing", "filter(0, 0, NONE, 0) = 1",
            "list(0) = -1000000000:1 0:1");
        for (String numbers : new String[] {"1, 0", "MAX, MIN", "0, -1", "NONE, OUTSIDE"}) {
            s.holds("Promise 8: with column NONE they are not looked at: " + numbers,
                "thing 0: 5", "facet(0, 0, 0, 0)", "filter(0, 0, 6, 6) = 0", "filter(0, NONE, " + numbers + ") = 1",
                "list(0) = 5:1", "filter(0, NONE, " + numbers + ") = 0");
        }
    }

    private static void filtersOutside() {
        for (String numbers : new String[] {"6, 5", "MAX, MIN", "0, -1", "1, MIN", "MAX, 0", "MAX, 2147483646"}) {
            s.holds("Promise 8: OUTSIDE: also when FROM is above TO: " + numbers,
                "thing 0: 5", "thing 0: 6", "facet(0, 0, 0, 0)", "enter(0, 0) = 1",
                "filter(0, 0, " + numbers + ") = OUTSIDE", "told(3) = 1", "filter(0, 0, 5, 5) = 0",
                "filter(0, 0, " + numbers + ") = OUTSIDE", "list(0) = 5:1", "filter(0, NONE, 0, 0) = 1");
        }
        s.holds("Promise 8: FROM and TO may be alike",
            "thing 0: 5", "thing 0: 6", "facet(0, 0, 0, 0)", "filter(0, 0, 5, 5) = 0", "list(0) = 5:1");
        s.holds("Promise 8: OUTSIDE: no such facet, also with column NONE",
            "facet(0, 0, 0, 0)", "filter(1, NONE, 0, 0) = OUTSIDE", "filter(-1, NONE, 0, 0) = OUTSIDE");
    }

    private static void leasts() {
        s.holds("Promise 9: LEAST (0 .. 120): what it was",
            "facet(0, 0, 0, 0)", "least(0, 0) = 1", "least(0, 120) = 0", "least(0, 120) = 120", "least(0, 1) = 120",
            "least(0, 119) = 1", "least(0, 1) = 119");
        for (String none : new String[] {"-1", "121", "MIN", "MAX", "NONE"}) {
            s.holds("Promise 9: LEAST (0 .. 120): not " + none,
                "thing 0: 5", "facet(0, 0, 0, 0)", "enter(0, 0) = 1", "least(0, " + none + ") = OUTSIDE",
                "told(3) = 1", "least(0, 7) = 1", "least(0, " + none + ") = OUTSIDE", "least(0, 1) = 7");
        }
    }

    private static void missing() {
        s.holds("Promise 10: Whether THE MISSING are asked for: whether they were: 1, 0",
            "thing", "facet(0, 0, 0, 0)", "groups(0) = 0", "missing(0, false) = 0", "groups(0) = 0",
            "missing(0, true) = 0", "groups(0) = 1", "missing(0, true) = 1", "groups(0) = 1", "missing(0, false) = 1",
            "groups(0) = 0", "missing(0, false) = 0");
    }

    private static void orders() {
        s.holds("Promise 11: ORDER (0 .. 2): what it was",
            "facet(0, 0, 0, 0)", "order(0, 0, 0) = 0", "order(0, 1, 0) = 0", "order(0, 2, 0) = 1",
            "order(0, 2, 5) = 2", "order(0, 1, 0) = 2", "order(0, 0, 0) = 1");
        for (String none : new String[] {"-1", "3", "MIN", "MAX", "NONE"}) {
            s.holds("Promise 11: ORDER (0 .. 2): not " + none,
                "thing 0: 5", "facet(0, 0, 0, 0)", "enter(0, 0) = 1", "order(0, " + none + ", 0) = OUTSIDE",
                "told(3) = 1", "order(0, 1, 0) = 0", "order(0, " + none + ", 0) = OUTSIDE", "order(0, 0, 0) = 1");
        }
        String[] scene = {
            "thing 0: 1; 2: 5", "thing 0: 2; 3: 5", "facet(0, 0, 0, 0)", "order(0, 2, 3) = 0", "list(0) = 2:1 1:1",
        };
        for (String none : new String[] {"-1", "6", "NONE", "MIN", "MAX"}) {
            s.holds("Promise 11: with a column for 2: not " + none, Sentences.join(scene,
                "enter(0, 0) = 1", "order(0, 2, " + none + ") = OUTSIDE", "told(3) = 1", "leave() = 0",
                "list(0) = 2:1 1:1", "order(0, 2, 2) = 2", "list(0) = 1:1 2:1"));
            s.holds("Promise 11: else it is not looked at: " + none, Sentences.join(scene,
                "order(0, 1, " + none + ") = 2", "list(0) = 1:1 2:1", "order(0, 0, " + none + ") = 1",
                "list(0) = 1:1 2:1"));
        }
    }
}
