/** The edges that the document names for what is AT HAND, promises 16 to 18, and the calls that leave all groups. */
public final class EnteringEdgesTest {
    private static final Sentences s = new Sentences();

    /** Objects 0 to 6; object o has the word 1 in the columns below o, so that each column's group is smaller. */
    private static final String[] NESTED = {
        "thing", "thing 0: 1", "thing 0: 1; 1: 1", "thing 0: 1; 1: 1; 2: 1", "thing 0: 1; 1: 1; 2: 1; 3: 1",
        "thing 0: 1; 1: 1; 2: 1; 3: 1; 4: 1", "thing 0: 1; 1: 1; 2: 1; 3: 1; 4: 1; 5: 1", "6 times facet(0, #, 0, 0)",
    };
    /** Objects 0 and 1 with the word 5, object 2 with none, object 3 that does not match; a facet of RANGES. */
    private static final String[] SCENE = {
        "thing 0: 5", "thing 0: 5", "thing", "object()", "facet(0, 0, 0, 0)", "facet(2, 0, 0, 0)", "missing(0, true)",
    };
    /** Calls from object() to order() that are not refused in SCENE, with their answers; some change nothing. */
    private static final String[] CHANGES = {
        "object() = 4", "value(0, 0, 6) = 2", "value(3, 5, 6) = 1", "match(0, false) = 1", "match(0, true) = 1",
        "match(3, false) = 0", "match(3, true) = 0", "facet(0, 5, 0, 0) = 2", "range(1, 0, 1) = 0",
        "filter(0, 0, 5, 5) = 0", "filter(1, NONE, 0, 0) = 0", "least(0, 2) = 1", "least(1, 1) = 1",
        "missing(0, false) = 1", "missing(0, true) = 1", "missing(1, false) = 0", "order(0, 1, 0) = 0",
        "order(0, 0, 0) = 0", "order(1, 2, 5) = 0",
    };
    private static final String[] QUESTIONS = {
        "groups(0)", "group(0, 0, 0)", "group(0, 0, 1)", "group(0, 0, 2)", "find(0, 5)", "find(0, 6) = NONE",
        "in(0, 0, 0)", "hand()", "figure(0, 0, 0, 1)", "figure(0, NONE, 0, 1)", "place(0, 0, 0, 50)",
        "place(0, NONE, 5, 50) = NONE", "told(0)", "told(1)", "told(2)", "told(3)", "groups(1) = 0",
    };

    public static void main(String[] args) {
        atHand();
        sixGroups();
        enter();
        enterOutside();
        enterRefusedTwice();
        enterNothing();
        enterTheMissing();
        leave();
        hand();
        changesLeaveAll();
        questionsLeaveNone();
        roomAfterLeaving();
        s.end();
    }

    private static void atHand() {
        s.holds("AT HAND are the objects that MATCH: none, one, all, none again",
            "hand() = 0", "120 times object()", "hand() = 0", "match(119, true)", "hand() = 1",
            "119 times match(#, true) = 0", "hand() = 120", "120 times match(#, false) = 1", "hand() = 0");
        s.holds("AT HAND, within a group that was entered, those of them that are in that group as well",
            "thing 0: 5", "thing 0: 6", "thing 0: 5 6", "object()", "value(3, 0, 5)", "facet(0, 0, 0, 0)",
            "hand() = 3", "enter(0, 0) = 2", "hand() = 2", "list(0) = 5:2 6:1", "members(0, 0) = 0 2",
            "enter(0, 1) = 1", "hand() = 1", "list(0) = 5:1 6:1", "members(0, 0) = 2", "told(1) = 3");
    }

    private static void sixGroups() {
        s.holds("AT HAND, and so on (6 groups at most): each within the one before", Sentences.join(NESTED,
            "hand() = 7", "enter(0, 0) = 6", "enter(1, 0) = 5", "enter(2, 0) = 4", "enter(3, 0) = 3", "enter(4, 0) = 2",
            "hand() = 2", "members(5, 0) = 6", "enter(5, 0) = 1", "hand() = 1", "members(0, 0) = 6",
            "enter(0, 0) = ROOM", "enter(5, 0) = ROOM", "told(3) = 6", "hand() = 1",
            "leave() = 5", "hand() = 2", "members(0, 0) = 5 6", "leave() = 4", "hand() = 3", "leave() = 3",
            "hand() = 4", "leave() = 2", "hand() = 5", "leave() = 1", "hand() = 6", "members(5, 0) = 6",
            "leave() = 0", "hand() = 7", "leave() = STATE"));
        s.holds("AT HAND, and so on (6 groups at most): the narrow one first", Sentences.join(NESTED,
            "enter(5, 0) = 1", "5 times enter(#, 0) = 1", "enter(0, 0) = ROOM", "leave() = 5", "hand() = 1",
            "5 times leave()", "hand() = 7"));
    }

    private static void enter() {
        s.holds("Promise 16: how many objects are AT HAND then: all of them, the same again",
            "120 times object()", "120 times match(#, true)", "120 times value(#, 0, 7)", "facet(0, 0, 0, 0)",
            "6 times enter(0, 0) = 120", "enter(0, 0) = ROOM", "hand() = 120", "6 times leave()", "hand() = 120");
        s.holds("Promise 16: how many objects are AT HAND then: those that count",
            "thing 0: 5; 1: 1", "thing 0: 5; 1: 2", "facet(0, 0, 0, 0)", "facet(0, 0, 0, 0)", "filter(0, 1, 2, 2)",
            "enter(0, 0) = 1", "hand() = 1", "members(1, 0) = 1", "figures(0, NONE, 1) = 1 2 2 2 1");
        s.holds("Promise 16: GROUP i by the ORDER as it is, of those AT HAND as they are",
            "thing 0: 1; 1: 9", "thing 0: 2; 1: 8", "thing 0: 2; 1: 9", "thing 0: 1; 1: 9", "thing 0: 1",
            "facet(0, 0, 0, 0)", "facet(0, 1, 0, 0)", "order(0, 2, 1)", "list(0) = 1:3 2:2", "list(1) = 9:3 8:1",
            "enter(1, 1) = 1", "list(0) = 2:1", "enter(0, 0) = 1", "list(1) = 8:1", "members(1, 0) = 1");
    }

    private static void enterOutside() {
        for (String none : new String[] {"-1", "2", "MIN", "MAX", "NONE"}) {
            s.holds("Promise 16: OUTSIDE (no such group): " + none, Sentences.join(SCENE,
                "groups(0) = 2", "enter(0, " + none + ") = OUTSIDE", "told(3) = 0", "hand() = 3", "enter(0, 1) = 1"));
        }
        s.holds("Promise 16: OUTSIDE (no such group): there is none at all", Sentences.join(SCENE,
            "groups(1) = 0", "enter(1, 0) = OUTSIDE", "told(3) = 0", "hand() = 3"));
    }

    private static void enterRefusedTwice() {
        String[] calls = {"enter(0, 1)", "enter(0, -1)", "enter(1, 0)", "enter(2, 0)", "enter(-1, 0)"};
        for (String outside : calls) {
            s.holds("Promise 16: OUTSIDE ahead of ROOM: 6 were entered", Sentences.join(SCENE,
                "6 times enter(0, 0) = 2", outside + " = OUTSIDE", "enter(0, 0) = ROOM", "told(3) = 6"));
        }
        s.holds("Promise 16: ROOM at 6, not at 5", Sentences.join(SCENE,
            "5 times enter(0, 0) = 2", "told(3) = 5", "enter(0, 0) = 2", "told(3) = 6", "enter(0, 0) = ROOM"));
    }

    private static void enterNothing() {
        s.holds("Promise 16: a RANGE without objects is entered: none is AT HAND then", Sentences.join(SCENE,
            "range(1, 7, 7)", "least(1, 0)", "list(1) = 0:0", "enter(1, 0) = 0", "hand() = 0", "told(3) = 1",
            "told(1) = 3", "list(0) = nothing", "list(1) = 0:0", "figures(0, NONE, 0) = 0 0 NONE NONE 0",
            "place(0, NONE, 0, 100) = NONE", "enter(0, 0) = OUTSIDE", "5 times enter(1, 0) = 0", "enter(1, 0) = ROOM",
            "leave() = 5", "hand() = 0", "5 times leave()", "hand() = 3", "list(0) = 5:2 missing:1"));
    }

    private static void enterTheMissing() {
        s.holds("Promise 16: THE MISSING is a GROUP too", Sentences.join(SCENE,
            "enter(0, 1) = 1", "hand() = 1", "list(0) = missing:1", "members(0, 0) = 2", "enter(0, 0) = 1",
            "told(3) = 2", "leave() = 1", "leave() = 0", "list(0) = 5:2 missing:1"));
    }

    private static void leave() {
        s.holds("Promise 17: STATE: none was", "leave() = STATE", "leave() = STATE", "told(3) = 0");
        s.holds("Promise 17: how many are still entered; STATE: none was", Sentences.join(SCENE,
            "leave() = STATE", "hand() = 3", "enter(0, 0) = 2", "leave() = 0", "leave() = STATE", "hand() = 3",
            "6 times enter(0, 0) = 2", "leave() = 5", "leave() = 4", "leave() = 3", "leave() = 2", "leave() = 1",
            "leave() = 0", "leave() = STATE", "told(3) = 0", "hand() = 3"));
        s.holds("Promise 17: The GROUP entered latest is left: nothing of it stays", Sentences.join(NESTED,
            "enter(0, 0) = 6", "enter(5, 0) = 1", "leave() = 1", "hand() = 6", "enter(4, 0) = 2", "hand() = 2",
            "members(0, 0) = 5 6", "leave() = 1", "enter(1, 0) = 5", "hand() = 5", "leave() = 1", "leave() = 0",
            "enter(3, 0) = 3", "members(0, 0) = 4 5 6"));
    }

    private static void hand() {
        s.holds("Promise 18: How many objects are AT HAND", Sentences.join(SCENE,
            "hand() = 3", "enter(0, 0) = 2", "hand() = 2", "leave() = 0", "hand() = 3", "enter(0, 1) = 1", "hand() = 1",
            "match(3, true) = 0", "hand() = 4", "clear() = 4", "hand() = 0"));
    }

    private static void changesLeaveAll() {
        for (String change : CHANGES) {
            for (int entered : new int[] {1, 2, 6}) {
                String before = entered + " times enter(0, 0) = 2";
                s.holds("object() to order(), when not refused, leave all groups that were entered",
                    Sentences.join(SCENE, before, "told(3) = " + entered, change, "told(3) = 0", "leave() = STATE"));
            }
        }
        s.holds("object() to order(): clear() leaves all groups", Sentences.join(SCENE,
            "2 times enter(0, 0) = 2", "clear() = 4", "told(3) = 0", "leave() = STATE", "hand() = 0"));
        s.holds("object() to order(), when not refused: all that match are AT HAND again", Sentences.join(SCENE,
            "enter(0, 1) = 1", "hand() = 1", "least(1, 1) = 1", "hand() = 3", "list(0) = 5:2 missing:1",
            "figure(0, NONE, 0, 0) = 2"));
        s.holds("object() to order(), when not refused: nothing of the groups left stays", Sentences.join(NESTED,
            "enter(3, 0) = 3", "enter(5, 0) = 1", "match(0, true) = 1", "enter(0, 0) = 6", "enter(1, 0) = 5",
            "members(0, 0) = 2 3 4 5 6", "hand() = 5"));
    }

    private static void questionsLeaveNone() {
        for (String question : QUESTIONS) {
            s.holds("object() to order() leave all groups: other calls do not", Sentences.join(SCENE,
                "2 times enter(0, 0) = 2", question, "told(3) = 2", "hand() = 2", "leave() = 1", "hand() = 2",
                "leave() = 0", "hand() = 3"));
        }
    }

    private static void roomAfterLeaving() {
        s.holds("6 groups at most: one left, one more may be entered", Sentences.join(SCENE,
            "6 times enter(0, 0) = 2", "enter(0, 0) = ROOM", "leave() = 5", "enter(0, 0) = 2", "enter(0, 0) = ROOM"));
        s.holds("6 groups at most: all left by a change, six more may be entered", Sentences.join(SCENE,
            "6 times enter(0, 0) = 2", "least(0, 1) = 1", "6 times enter(0, 0) = 2", "enter(0, 0) = ROOM"));
    }
}
