/** The edges that the document's part 3 (FIGURES) and promises 19 and 20 name, sentence by sentence. */
public final class FigureEdgesTest {
    private static final Sentences s = new Sentences();

    /** Words 1 (objects 0 and 1) and 2 (object 1), THE MISSING (object 2); object 3 does not match. */
    private static final String[] SCENE = {
        "thing 0: 1; 4: 5 5 -3", "thing 0: 1 2 1; 4: 5 8", "thing 4: 100", "object()", "value(3, 4, 1000)",
        "value(3, 0, 1)", "facet(0, 0, 0, 0)", "missing(0, true)",
    };

    public static void main(String[] args) {
        figures();
        figuresOfAllAtHand();
        figuresOfOneAndNone();
        figuresAtTheEdges();
        figuresOutside();
        figuresOutsideFirst();
        places();
        placesOfMany();
        placesOfOneAndNone();
        placesOutside();
        s.end();
    }

    private static void figures() {
        s.holds("3 FIGURES: of all the VALUES that their objects have in a COLUMN (alike ones each by itself)",
            Sentences.join(SCENE, "list(0) = 1:2 2:1 missing:1", "figures(0, 0, 4) = 5 20 -3 8 3",
                "figures(0, 1, 4) = 2 13 5 8 2", "figures(0, 2, 4) = 1 100 100 100 1"));
        s.holds("3 FIGURES: of the facet's own COLUMN: all VALUES of the objects, not those of the KEY alone",
            Sentences.join(SCENE, "figures(0, 0, 0) = 4 5 1 2 2", "figures(0, 1, 0) = 3 4 1 2 2"));
        s.holds("3 FIGURES: an object's VALUES once, though more than one of its VALUES gives the KEY",
            "thing 0: 11 12 13; 1: 4", "facet(3, 0, 10, 0)", "figures(0, 0, 0) = 3 36 11 13 3",
            "figures(0, 0, 1) = 1 4 4 4 1");
        s.holds("Promise 19: how many different ones (4): over all objects, alike ones of one and of several",
            "thing 1: 7 7 7", "thing 1: 7 8 9", "thing 1: 9 9 10", "figures(0, NONE, 1) = 9 73 7 10 4");
    }

    private static void figuresOfAllAtHand() {
        for (String facet : new String[] {"0", "1", "-1", "10", "MIN", "MAX", "NONE"}) {
            s.holds("Promise 19: i = NONE; the facet is not looked at: " + facet, Sentences.join(SCENE,
                "figures(" + facet + ", NONE, 4) = 6 120 -3 100 4", "place(" + facet + ", NONE, 4, 100) = 100"));
        }
        s.holds("3 FIGURES of all AT HAND: within a group that was entered", Sentences.join(SCENE,
            "enter(0, 1) = 1", "figures(0, NONE, 4) = 2 13 5 8 2", "figures(0, 0, 4) = 2 13 5 8 2",
            "place(0, NONE, 4, 0) = 5", "place(0, NONE, 4, 51) = 8", "leave() = 0",
            "figures(0, NONE, 4) = 6 120 -3 100 4"));
        s.holds("3 FIGURES of all AT HAND: the facet's FILTER and LEAST are of no matter", Sentences.join(SCENE,
            "filter(0, 0, 9, 9)", "least(0, 120)", "groups(0) = 0", "figures(0, NONE, 4) = 6 120 -3 100 4"));
    }

    private static void figuresOfOneAndNone() {
        s.holds("Promise 19: 2 and 3 NONE without any: of a GROUP", Sentences.join(SCENE,
            "figures(0, 0, 5) = 0 0 NONE NONE 0", "figures(0, 2, 0) = 0 0 NONE NONE 0"));
        s.holds("Promise 19: 2 and 3 NONE without any: of all AT HAND", Sentences.join(SCENE,
            "figures(0, NONE, 5) = 0 0 NONE NONE 0"));
        s.holds("Promise 19: 2 and 3 NONE without any: nothing AT HAND",
            "figures(0, NONE, 0) = 0 0 NONE NONE 0", "object()", "value(0, 0, 5)",
            "figures(0, NONE, 0) = 0 0 NONE NONE 0");
        s.holds("Promise 19: 2 and 3 NONE without any: a RANGE without objects",
            "thing 0: 5", "facet(2, 0, 0, 0)", "range(0, 6, 6)", "least(0, 0)", "figures(0, 0, 0) = 0 0 NONE NONE 0");
        for (int v : new int[] {-1000000000, -1, 0, 1, 1000000000}) {
            s.holds("Promise 19: the least (2), the greatest (3): of one VALUE, " + v,
                "thing 3: " + v, "figures(0, NONE, 3) = 1 " + v + " " + v + " " + v + " 1");
        }
    }

    private static void figuresAtTheEdges() {
        s.holds("Promise 19: their sum (1): as great as 512 calls can tell",
            "100 times thing 0: 1000000000 1000000000 1000000000",
            "figures(0, NONE, 0) = 300 300000000000 1000000000 1000000000 1");
        s.holds("Promise 19: their sum (1): as small as 512 calls can tell",
            "100 times thing 0: -1000000000 -1000000000 -1000000000",
            "figures(0, NONE, 0) = 300 -300000000000 -1000000000 -1000000000 1");
        s.holds("Promise 19: their sum (1): the greatest and the least VALUE are 0 together",
            "thing 0: 1000000000 -1000000000", "figures(0, NONE, 0) = 2 0 -1000000000 1000000000 2");
        s.holds("Promise 19: their sum (1): the first that an int does not hold",
            "thing 0: 1000000000 1000000000 147483648", "thing 1: -1000000000 -1000000000 -147483649",
            "figures(0, NONE, 0) = 3 2147483648 147483648 1000000000 2",
            "figures(0, NONE, 1) = 3 -2147483649 -1000000000 -147483649 2");
        s.holds("Promise 19: how many VALUES (0), how many different ones (4): as many as 512 calls can tell",
            "100 times thing 0: # 1000# -1000#", "figures(0, NONE, 0) = 300 4950 -100099 100099 300");
    }

    private static void figuresOutside() {
        for (String none : new String[] {"-1", "5", "MIN", "MAX", "NONE"}) {
            s.holds("Promise 19: OUTSIDE: what = " + none, Sentences.join(SCENE,
                "enter(0, 0) = 2", "figure(0, 0, 4, " + none + ") = OUTSIDE",
                "figure(0, NONE, 4, " + none + ") = OUTSIDE", "figure(0, NONE, 5, " + none + ") = OUTSIDE"));
        }
        for (String none : new String[] {"-1", "3", "MIN", "MAX", "OUTSIDE", "-1999999999"}) {
            s.holds("Promises 19 and 20: OUTSIDE (no such group): " + none, Sentences.join(SCENE,
                "figure(0, " + none + ", 4, 0) = OUTSIDE", "place(0, " + none + ", 4, 50) = OUTSIDE",
                "figure(0, 2, 4, 0) = 1", "place(0, 2, 4, 50) = 100"));
        }
        s.holds("Promises 19 and 20: OUTSIDE (no such group): there is none at all",
            "thing 0: 5", "facet(0, 1, 0, 0)", "figure(0, 0, 0, 0) = OUTSIDE", "place(0, 0, 0, 50) = OUTSIDE",
            "figure(0, NONE, 0, 0) = 1", "place(0, NONE, 0, 50) = 5");
        for (String none : new String[] {"-1", "1", "10", "MIN", "MAX", "NONE"}) {
            s.holds("Promises 19 and 20: OUTSIDE (no such facet): " + none, Sentences.join(SCENE,
                "figure(" + none + ", 0, 4, 0) = OUTSIDE", "place(" + none + ", 0, 4, 50) = OUTSIDE"));
        }
    }

    private static void figuresOutsideFirst() {
        s.holds("Promise 19: OUTSIDE ahead of NONE: where there are no VALUES either",
            "figure(0, NONE, 6, 2) = OUTSIDE", "figure(0, NONE, -1, 3) = OUTSIDE", "figure(0, NONE, 0, 5) = OUTSIDE",
            "figure(0, NONE, 0, 2) = NONE", "figure(0, NONE, 0, 3) = NONE");
        s.holds("Promise 20: OUTSIDE ahead of NONE: where there are no VALUES either",
            "place(0, NONE, 6, 50) = OUTSIDE", "place(0, NONE, -1, 50) = OUTSIDE", "place(0, NONE, 0, 101) = OUTSIDE",
            "place(0, NONE, 0, -1) = OUTSIDE", "place(0, NONE, 0, 0) = NONE", "place(0, NONE, 0, 100) = NONE");
    }

    private static void places() {
        s.holds("Promise 20: percent times how many, divided by 100, rounded up (at least the first): of two",
            "thing 1: 20 10", "place(0, NONE, 1, 0) = 10", "place(0, NONE, 1, 1) = 10", "place(0, NONE, 1, 49) = 10",
            "place(0, NONE, 1, 50) = 10", "place(0, NONE, 1, 51) = 20", "place(0, NONE, 1, 99) = 20",
            "place(0, NONE, 1, 100) = 20");
        s.holds("Promise 20: rounded up: of three",
            "thing 1: 30 10 20", "place(0, NONE, 1, 0) = 10", "place(0, NONE, 1, 1) = 10", "place(0, NONE, 1, 33) = 10",
            "place(0, NONE, 1, 34) = 20", "place(0, NONE, 1, 66) = 20", "place(0, NONE, 1, 67) = 30",
            "place(0, NONE, 1, 100) = 30");
        s.holds("Promise 20: by size: below 0 too, and alike ones each by itself",
            "thing 1: 5 -1000000000 5", "thing 1: 1000000000 5 -7", "place(0, NONE, 1, 0) = -1000000000",
            "place(0, NONE, 1, 16) = -1000000000", "place(0, NONE, 1, 17) = -7", "place(0, NONE, 1, 33) = -7",
            "place(0, NONE, 1, 34) = 5", "place(0, NONE, 1, 83) = 5", "place(0, NONE, 1, 84) = 1000000000",
            "place(0, NONE, 1, 100) = 1000000000");
        s.holds("Promise 20: Of these VALUES: of a GROUP, or of all AT HAND", Sentences.join(SCENE,
            "place(0, 0, 4, 20) = -3", "place(0, 0, 4, 21) = 5", "place(0, 0, 4, 80) = 5", "place(0, 0, 4, 81) = 8",
            "place(0, 1, 4, 50) = 5", "place(0, 1, 4, 51) = 8", "place(0, 2, 4, 0) = 100",
            "place(0, NONE, 4, 83) = 8", "place(0, NONE, 4, 84) = 100"));
    }

    private static void placesOfMany() {
        s.holds("Promise 20: of a hundred: each percent is a place",
            "99 times thing 0: #", "thing 0: 99", "place(0, NONE, 0, 0) = 0", "place(0, NONE, 0, 1) = 0",
            "place(0, NONE, 0, 2) = 1", "place(0, NONE, 0, 50) = 49", "place(0, NONE, 0, 99) = 98",
            "place(0, NONE, 0, 100) = 99");
        s.holds("Promise 20: of a hundred and one: 1 percent is the second",
            "101 times thing 0: #", "place(0, NONE, 0, 0) = 0", "place(0, NONE, 0, 1) = 1", "place(0, NONE, 0, 2) = 2",
            "place(0, NONE, 0, 50) = 50", "place(0, NONE, 0, 51) = 51", "place(0, NONE, 0, 99) = 99",
            "place(0, NONE, 0, 100) = 100");
        s.holds("Promise 20: of ninety-nine: 1 percent is the first",
            "99 times thing 0: #", "place(0, NONE, 0, 1) = 0", "place(0, NONE, 0, 2) = 1", "place(0, NONE, 0, 99) = 98",
            "place(0, NONE, 0, 100) = 98");
        s.holds("Promise 20: of three hundred",
            "100 times thing 0: # # #", "place(0, NONE, 0, 0) = 0", "place(0, NONE, 0, 1) = 0",
            "place(0, NONE, 0, 2) = 1", "place(0, NONE, 0, 99) = 98", "place(0, NONE, 0, 100) = 99");
    }

    private static void placesOfOneAndNone() {
        s.holds("Promise 20: (at least the first): of one, every percent",
            "thing 0: 7", "101 times place(0, NONE, 0, #) = 7");
        s.holds("Promise 20: NONE without any, every percent",
            "thing 0: 7", "facet(0, 0, 0, 0)", "101 times place(0, NONE, 1, #) = NONE",
            "101 times place(0, 0, 1, #) = NONE");
    }

    private static void placesOutside() {
        for (String none : new String[] {"-1", "101", "MIN", "MAX", "NONE"}) {
            s.holds("Promise 20: percent (0 .. 100): not " + none, Sentences.join(SCENE,
                "enter(0, 0) = 2", "place(0, 0, 4, " + none + ") = OUTSIDE",
                "place(0, NONE, 4, " + none + ") = OUTSIDE",
                "place(0, 0, 4, 0) = -3", "place(0, 0, 4, 100) = 8"));
        }
    }
}
