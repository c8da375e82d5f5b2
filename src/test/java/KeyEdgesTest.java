/** The edges that the document names for the KEYS that a VALUE gives, KIND by KIND (part 2, FACETS). */
public final class KeyEdgesTest {
    private static final Sentences s = new Sentences();

    public static void main(String[] args) {
        words();
        pathsFromTo();
        pathSteps();
        pathsThatGiveNone();
        rangesBothWithin();
        rangesEach();
        steps();
        stepsBeyondTheValues();
        daysFromTo();
        weeks();
        months();
        quarters();
        years();
        leapYears();
        s.end();
    }

    /** That an object with one VALUE is in the GROUPS of these KEYS, or among THE MISSING. */
    private static void gives(String sentence, String facet, int value, String keys) {
        s.holds(sentence + ": " + value,
            "thing 3: " + value, "facet(" + facet + ") = 0", "missing(0, true) = 0", "order(0, 1, 0) = 0",
            "list(0) = " + keys);
    }

    private static void words() {
        for (int v : new int[] {-1000000000, -999999999, -1, 0, 1, 999999999, 1000000000}) {
            gives("0 WORDS: itself", "0, 3, 0, 0", v, v + ":1");
        }
        s.holds("0 WORDS: each VALUE gives its own KEY, alike ones the same",
            "thing 0: 7 8 9", "thing 0: 8 8 8", "thing 0: 9 8 9", "facet(0, 0, 0, 0)", "order(0, 1, 0)",
            "list(0) = 7:1 8:3 9:2");
    }

    private static void pathsFromTo() {
        String sentence = "1 PATHS: one that is from 10000 to 999999";
        gives(sentence, "1, 3, 0, 0", 9999, "missing:1");
        gives(sentence, "1, 3, 0, 0", 10000, "10000:1");
        gives(sentence, "1, 3, 0, 0", 999999, "990000:1 999900:1 999999:1");
        gives(sentence, "1, 3, 0, 0", 1000000, "missing:1");
        gives(sentence, "1, 3, 0, 0", 999900, "990000:1 999900:1");
        gives(sentence, "1, 3, 0, 0", 990000, "990000:1");
        gives(sentence, "1, 3, 0, 0", 10100, "10000:1 10100:1");
        gives(sentence, "1, 3, 0, 0", 10101, "10000:1 10100:1 10101:1");
    }

    private static void pathSteps() {
        String last = "1 PATHS: the last, or the last two, may be 0";
        gives(last, "1, 3, 0, 0", 123400, "120000:1 123400:1");
        gives(last, "1, 3, 0, 0", 120000, "120000:1");
        gives(last, "1, 3, 0, 0", 123456, "120000:1 123400:1 123456:1");
        String each = "1 PATHS: three steps of two figures each: a step with a figure of 0 is not 0";
        gives(each, "1, 3, 0, 0", 101010, "100000:1 101000:1 101010:1");
        gives(each, "1, 3, 0, 0", 100000, "100000:1");
        gives(each, "1, 3, 0, 0", 101000, "100000:1 101000:1");
        gives(each, "1, 3, 0, 0", 100101, "100000:1 100100:1 100101:1");
        gives(each, "1, 3, 0, 0", 19999, "10000:1 19900:1 19999:1");
        gives(each, "1, 3, 0, 0", 99999, "90000:1 99900:1 99999:1");
        s.holds("1 PATHS: of each step the VALUE with 0 in place of all steps behind it: shared by those below",
            "thing 0: 123456", "thing 0: 123457", "thing 0: 123500", "thing 0: 130000", "thing 0: 123400",
            "thing 0: 120000", "facet(1, 0, 0, 0)", "order(0, 1, 0)",
            "list(0) = 120000:5 123400:3 123456:1 123457:1 123500:1 130000:1");
        s.holds("1 PATHS: three VALUES with three steps each",
            "thing 0: 111111 222222 333333", "facet(1, 0, 0, 0)", "order(0, 1, 0)",
            "list(0) = 110000:1 111100:1 111111:1 220000:1 222200:1 222222:1 330000:1 333300:1 333333:1");
    }

    private static void pathsThatGiveNone() {
        for (int v : new int[] {-1000000000, -999999, -123456, -10000, -1, 0, 1, 99, 100, 9900, 1234560, 1000000000}) {
            gives("1 PATHS: others give none", "1, 3, 0, 0", v, "missing:1");
        }
        for (int v : new int[] {10001, 10099, 120001, 120056, 990001, 990099, 100010}) {
            gives("1 PATHS: those with a step of 0 ahead of one that is not give none", "1, 3, 0, 0", v, "missing:1");
        }
        s.holds("1 PATHS: give none: other VALUES of the object still give theirs",
            "thing 0: 120056 9999 120000", "thing 0: 120056 9999 1000000", "facet(1, 0, 0, 0)", "missing(0, true)",
            "list(0) = 120000:1 missing:1", "members(0, 0) = 0", "members(0, 1) = 1");
    }

    private static void rangesBothWithin() {
        String[] scene = {"facet(2, 0, 0, 0)", "range(0, -5, 5) = 0", "missing(0, true)"};
        int[] values = {-1000000000, -6, -5, -4, 0, 5, 6, 1000000000};
        for (int v : values) {
            s.holds("2 RANGES: each FROM .. TO, both within: " + v, Sentences.join(scene,
                "thing 0: " + v, "list(0) = " + (v >= -5 && v <= 5 ? "0:1" : "missing:1")));
        }
        s.holds("2 RANGES: both within, of one number",
            "facet(2, 0, 0, 0)", "range(0, 7, 7)", "thing 0: 6", "thing 0: 7", "thing 0: 8", "list(0) = 0:1",
            "members(0, 0) = 1");
        s.holds("2 RANGES: both within, from the least VALUE to the greatest",
            "facet(2, 0, 0, 0)", "range(0, -1000000000, 1000000000)", "thing 0: -1000000000", "thing 0: 1000000000",
            "thing 0: 0", "thing", "list(0) = 0:3");
    }

    private static void rangesEach() {
        s.holds("2 RANGES: the number of each RANGE of the facet in which it is",
            "facet(2, 0, 0, 0)", "range(0, 0, 10)", "range(0, 10, 20)", "range(0, 0, 10)", "range(0, 11, 20)",
            "range(0, 10, 10)", "range(0, -9, 30)", "thing 0: 10", "thing 0: 11", "thing 0: 9", "order(0, 1, 0)",
            "list(0) = 0:2 1:2 2:2 3:1 4:1 5:3", "members(0, 0) = 0 2", "members(0, 1) = 0 1", "members(0, 2) = 0 2",
            "members(0, 3) = 1", "members(0, 4) = 0", "members(0, 5) = 0 1 2");
        s.holds("2 RANGES: the number of each RANGE: six, and three VALUES in each",
            "facet(2, 0, 0, 0)", "6 times range(0, 0, 10) = #", "thing 0: 1 2 3", "thing 0: 4 5 6",
            "list(0) = 0:2 1:2 2:2 3:2 4:2 5:2");
        s.holds("2 RANGES: none, so that no VALUE gives a KEY",
            "facet(2, 0, 0, 0)", "thing 0: 1", "least(0, 0)", "list(0) = nothing", "missing(0, true)",
            "list(0) = missing:1");
        s.holds("2 RANGES: a VALUE between two of them is in none",
            "facet(2, 0, 0, 0)", "range(0, 0, 10)", "range(0, 12, 20)", "thing 0: 11", "thing 0: -1 21",
            "thing 0: 11 12", "missing(0, true)", "list(0) = 1:1 missing:2");
    }

    private static void steps() {
        String sentence = "3 STEPS: the greatest number that is not above it and is b more than a multiple of a";
        int[][] tens = {
            {-20, -20}, {-11, -20}, {-10, -10}, {-9, -10}, {-1, -10}, {0, 0}, {1, 0}, {9, 0}, {10, 10}, {11, 10},
        };
        for (int[] one : tens) {
            gives(sentence, "3, 3, 10, 0", one[0], one[1] + ":1");
        }
        int[][] ninesOfTen = {{-12, -21}, {-11, -11}, {-2, -11}, {-1, -1}, {0, -1}, {8, -1}, {9, 9}, {18, 9}, {19, 19}};
        for (int[] one : ninesOfTen) {
            gives(sentence, "3, 3, 10, 9", one[0], one[1] + ":1");
        }
        int[][] onesOfTwo = {{-2, -3}, {-1, -1}, {0, -1}, {1, 1}, {2, 1}, {3, 3}};
        for (int[] one : onesOfTwo) {
            gives(sentence, "3, 3, 2, 1", one[0], one[1] + ":1");
        }
        for (int v : new int[] {-1000000000, -1, 0, 1, 1000000000}) {
            gives(sentence + ", a = 1", "3, 3, 1, 0", v, v + ":1");
        }
    }

    private static void stepsBeyondTheValues() {
        String sentence = "3 STEPS: a 1 .. 1000000, b 0 .. a - 1, at the edges of the VALUES";
        int[][] million = {
            {-1000000000, -1000000000}, {-999999999, -1000000000}, {-1, -1000000}, {0, 0}, {999999, 0},
            {1000000, 1000000}, {999999999, 999000000}, {1000000000, 1000000000},
        };
        for (int[] one : million) {
            gives(sentence, "3, 3, 1000000, 0", one[0], one[1] + ":1");
        }
        int[][] lastOfMillion = {
            {-1000000000, -1000000001}, {-999000002, -1000000001}, {-999000001, -999000001}, {-1, -1}, {0, -1},
            {999998, -1}, {999999, 999999}, {999999998, 998999999}, {999999999, 999999999}, {1000000000, 999999999},
        };
        for (int[] one : lastOfMillion) {
            gives(sentence, "3, 3, 1000000, 999999", one[0], one[1] + ":1");
        }
        gives(sentence, "3, 3, 1000000, 1", -1000000000, "-1000999999:1");
        gives(sentence, "3, 3, 1000000, 1", 1000000000, "999000001:1");
        gives(sentence, "3, 3, 999999, 999998", -1000000000, "-1000999000:1");
        gives(sentence, "3, 3, 999999, 999998", 1000000000, "999998999:1");
    }

    private static void daysFromTo() {
        String[] first = {"-1000000:1", "-1000002:1", "-1000003:1", "-1000034:1", "-1000034:1"};
        String[] last = {"1000000:1", "999996:1", "999972:1", "999941:1", "999668:1"};
        for (int a = 0; a <= 4; a++) {
            String facet = "4, 3, " + a + ", 0";
            String sentence = "4 CALENDAR: of a day from -1000000 to 1000000; others give none, a = " + a;
            gives(sentence, facet, -1000000, first[a]);
            gives(sentence, facet, 1000000, last[a]);
            for (int v : new int[] {-1000001, 1000001, -1000002, 1000034, -1000000000, 1000000000}) {
                gives(sentence, facet, v, "missing:1");
            }
        }
        for (int v : new int[] {-1000000, -719529, -1, 0, 1, 59, 1000000}) {
            gives("4 CALENDAR: the first day of its day (a = 0)", "4, 3, 0, 0", v, v + ":1");
        }
    }

    private static void weeks() {
        int[][] days = {
            {-11, -17}, {-10, -10}, {-4, -10}, {-3, -3}, {-1, -3}, {0, -3}, {3, -3}, {4, 4}, {10, 4}, {11, 11},
            {-719528, -719533}, {-719533, -719533}, {-719534, -719540},
        };
        for (int[] one : days) {
            gives("4 CALENDAR: 0, a Thursday; week (1; from Monday on)", "4, 3, 1, 0", one[0], one[1] + ":1");
        }
    }

    /** Both sides of the beginning of every month of 1970, of the last one before and of the first one after. */
    private static void months() {
        int[] firsts = {-61, -31, 0, 31, 59, 90, 120, 151, 181, 212, 243, 273, 304, 334, 365};
        for (int m = 1; m < firsts.length; m++) {
            gives("4 CALENDAR: month (2)", "4, 3, 2, 0", firsts[m], firsts[m] + ":1");
            gives("4 CALENDAR: month (2)", "4, 3, 2, 0", firsts[m] - 1, firsts[m - 1] + ":1");
        }
    }

    private static void quarters() {
        int[] firsts = {-184, -92, 0, 90, 181, 273, 365, 455};
        for (int q = 1; q < firsts.length; q++) {
            gives("4 CALENDAR: quarter (3)", "4, 3, 3, 0", firsts[q], firsts[q] + ":1");
            gives("4 CALENDAR: quarter (3)", "4, 3, 3, 0", firsts[q] - 1, firsts[q - 1] + ":1");
        }
    }

    /** The years 1967 to 1973; 1968 and 1972 have a day more. */
    private static void years() {
        int[] firsts = {-1461, -1096, -731, -365, 0, 365, 730, 1096};
        for (int y = 1; y < firsts.length; y++) {
            gives("4 CALENDAR: year (4)", "4, 3, 4, 0", firsts[y], firsts[y] + ":1");
            gives("4 CALENDAR: year (4)", "4, 3, 4, 0", firsts[y] - 1, firsts[y - 1] + ":1");
        }
    }

    /** Where a year begins, and whether it has a February 29: month, quarter and year around it tell. */
    private static void leapYears() {
        int[][] years = {
            {-865990, 0}, {-865625, 1}, {-756052, 0}, {-720989, 1}, {-719893, 0}, {-719528, 1}, {-135140, 1},
            {-98615, 0}, {-25567, 0}, {0, 0}, {730, 1}, {10957, 1}, {46021, 1}, {47482, 0}, {157054, 1},
        };
        String sentence = "4 CALENDAR: in the Gregorian calendar, which is thought to go on both ways";
        for (int[] one : years) {
            int start = one[0];
            int february = start + 31;
            int march = start + 59 + one[1];
            int april = march + 31;
            int next = start + 365 + one[1];
            gives(sentence, "4, 3, 2, 0", march - 1, february + ":1");
            gives(sentence, "4, 3, 2, 0", march, march + ":1");
            gives(sentence, "4, 3, 3, 0", april - 1, start + ":1");
            gives(sentence, "4, 3, 3, 0", april, april + ":1");
            gives(sentence, "4, 3, 4, 0", start, start + ":1");
            gives(sentence, "4, 3, 4, 0", next - 1, start + ":1");
            gives(sentence, "4, 3, 4, 0", next, next + ":1");
        }
    }
}
