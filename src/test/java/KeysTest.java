/** The keys that promises 6, 7, 12 and 13 speak of, but for the calendar's. */
public final class KeysTest {
    private static final Check c = new Check();

    public static void main(String[] args) {
        words();
        paths();
        pathsThatGiveNone();
        ranges();
        steps();
        stepsAtTheEdges();
        mostGroups();
        c.end();
    }

    private static void words() {
        FacetFigures x = new FacetFigures();
        Scene.matching(x, 3, -7, 0, -7);
        Scene.matching(x, 3, 1000000000, -1000000000, 0);
        x.facet(Scene.WORDS, 3, 0, 0);
        Scene.dueList(c, "words, alike values once", x, 0, "0:2 -1000000000:1 -7:1 1000000000:1");
    }

    private static void paths() {
        FacetFigures x = new FacetFigures();
        Scene.matching(x, 0, 120000, 123456, 123400);
        Scene.matching(x, 0, 123457, 990000);
        Scene.matching(x, 0, 999999, 10101);
        Scene.matching(x, 0, 10000);
        x.facet(Scene.PATHS, 0, 9, 9);
        x.order(0, 1, 0);
        Scene.dueList(c, "paths", x, 0,
            "10000:2 10100:1 10101:1 120000:2 123400:2 123456:1 123457:1 990000:2 999900:1 999999:1");
    }

    private static void pathsThatGiveNone() {
        FacetFigures x = new FacetFigures();
        Scene.matching(x, 0, 9999, 1000000, -123456);
        Scene.matching(x, 0, 120001, 990099, 10001);
        Scene.matching(x, 0, 0, -1000000000, 1000000000);
        Scene.matching(x, 0, 120001, 120000);
        x.facet(Scene.PATHS, 0, 0, 0);
        x.missing(0, true);
        Scene.dueList(c, "no paths", x, 0, "120000:1 missing:3");
    }

    private static void ranges() {
        FacetFigures x = new FacetFigures();
        Scene.matching(x, 0, 10);
        Scene.matching(x, 0, 9, 11);
        Scene.matching(x, 0, 20, 5, 10);
        Scene.matching(x, 0, 21);
        x.facet(Scene.RANGES, 0, 0, 0);
        x.missing(0, true);
        Scene.dueList(c, "no ranges: all are missing", x, 0, "missing:4");
        x.range(0, 10, 20);
        x.range(0, 100, 200);
        x.range(0, 10, 10);
        x.range(0, 10, 20);
        Scene.dueList(c, "ranges, both ends within", x, 0, "0:3 3:3 2:2 missing:1");
        x.least(0, 0);
        Scene.dueList(c, "one without objects too", x, 0, "0:3 3:3 2:2 1:0 missing:1");
        x.order(0, 1, 0);
        Scene.dueList(c, "by key", x, 0, "0:3 1:0 2:2 3:3 missing:1");
        c.due("find the empty one", x.find(0, 1), 1);
        c.due("nobody is in it", x.in(0, 1, 0), 0);
        c.due("its figure", x.figure(0, 1, 0, 3), Scene.NONE);
        c.due("entering it", x.enter(0, 1), 0);
        Scene.dueList(c, "within it", x, 0, "0:0 1:0 2:0 3:0");
        x.range(0, 21, 21);
        x.range(0, -1000000000, 1000000000);
        x.order(0, 0, 0);
        Scene.dueList(c, "six ranges", x, 0, "5:4 0:3 3:3 2:2 4:1 1:0");
    }

    private static void steps() {
        FacetFigures x = new FacetFigures();
        Scene.matching(x, 0, -1, 0, 1);
        Scene.matching(x, 0, 9, 10, -10);
        Scene.matching(x, 0, -11, 13, 12);
        x.facet(Scene.STEPS, 0, 10, 0);
        x.facet(Scene.STEPS, 0, 10, 3);
        x.facet(Scene.STEPS, 0, 1, 0);
        for (int f = 0; f < 3; f++) {
            x.order(f, 1, 0);
        }
        Scene.dueList(c, "steps of 10", x, 0, "-20:1 -10:2 0:2 10:2");
        Scene.dueList(c, "steps of 10 from 3", x, 1, "-17:2 -7:1 3:2 13:1");
        Scene.dueList(c, "steps of 1", x, 2, "-11:1 -10:1 -1:1 0:1 1:1 9:1 10:1 12:1 13:1");
    }

    private static void stepsAtTheEdges() {
        FacetFigures x = new FacetFigures();
        Scene.matching(x, 0, -1000000000, 1000000000);
        x.facet(Scene.STEPS, 0, 1000000, 999999);
        x.facet(Scene.STEPS, 0, 999983, 999982);
        x.facet(Scene.STEPS, 0, 1000000, 0);
        for (int f = 0; f < 3; f++) {
            x.order(f, 1, 0);
        }
        Scene.dueList(c, "the greatest step", x, 0, "-1000000001:1 999999999:1");
        long low = Math.floorDiv(-1000000000L - 999982, 999983L) * 999983 + 999982;
        long high = Math.floorDiv(1000000000L - 999982, 999983L) * 999983 + 999982;
        c.due("low", x.group(1, 0, 0), low);
        c.due("high", x.group(1, 1, 0), high);
        Scene.dueList(c, "themselves", x, 2, "-1000000000:1 1000000000:1");
    }

    /** 3 paths of up to 3 keys each for every object: some 500 calls can hardly give more groups. */
    private static void mostGroups() {
        FacetFigures x = new FacetFigures();
        x.facet(Scene.PATHS, 0, 0, 0);
        x.missing(0, true);
        x.order(0, 1, 0);
        int path = 0;
        for (int o = 0; o < 100; o++) {
            int[] three = new int[3];
            for (int k = 0; k < 3; k++) {
                // 5 second steps within each first one, so that some keys are shared
                three[k] = (path / 5 + 1) * 10000 + (path % 5 + 1) * 100 + 1;
                path++;
            }
            Scene.matching(x, 0, three);
        }
        c.due("groups", x.groups(0), 60 + 300 + 300);
        c.due("first", x.group(0, 0, 0), 10000);
        c.due("last", x.group(0, 659, 0), 600501);
        c.due("behind the last", x.group(0, 660, 0), Scene.OUTSIDE);
    }
}
