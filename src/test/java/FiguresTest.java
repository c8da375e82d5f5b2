/** Promises 19 (figure) and 20 (place). */
public final class FiguresTest {
    private static final Check c = new Check();

    public static void main(String[] args) {
        figures();
        figuresWithoutValues();
        figuresOutside();
        greatSums();
        withinGroups();
        places();
        placesOfOneAndTwo();
        placesOutside();
        c.end();
    }

    private static void dueFigures(FacetFigures x, int facet, int i, int column, long... want) {
        for (int what = 0; what <= 4; what++) {
            c.due("figure(" + facet + ", " + i + ", " + column + ", " + what + ")",
                x.figure(facet, i, column, what), want[what]);
        }
    }

    /** Words 1 (objects 0, 1) and 2 (objects 1, 2); object 3 has none; object 4 does not match. */
    private static FacetFigures scene() {
        FacetFigures x = new FacetFigures();
        Scene.matching(x, 0, 1);
        Scene.matching(x, 0, 1, 2, 1);
        Scene.matching(x, 0, 2);
        x.object();
        x.match(3, true);
        x.object();
        int[][] values = {{0, 5}, {0, 5}, {0, -3}, {1, 5}, {1, 8}, {2, 8}, {3, 100}, {4, 1000}};
        for (int[] one : values) {
            x.value(one[0], 4, one[1]);
        }
        x.facet(Scene.WORDS, 0, 0, 0);
        x.missing(0, true);
        return x;
    }

    private static void figures() {
        FacetFigures x = scene();
        dueFigures(x, 0, 0, 4, 5, 20, -3, 8, 3);
        dueFigures(x, 0, 1, 4, 3, 21, 5, 8, 2);
        dueFigures(x, 0, 2, 4, 1, 100, 100, 100, 1);
        dueFigures(x, 0, Scene.NONE, 4, 7, 128, -3, 100, 4);
        dueFigures(x, 99, Scene.NONE, 4, 7, 128, -3, 100, 4);
        dueFigures(x, 0, 0, 0, 4, 5, 1, 2, 2);
    }

    private static void figuresWithoutValues() {
        FacetFigures x = scene();
        dueFigures(x, 0, 0, 5, 0, 0, Scene.NONE, Scene.NONE, 0);
        dueFigures(x, -1, Scene.NONE, 5, 0, 0, Scene.NONE, Scene.NONE, 0);
        dueFigures(new FacetFigures(), 0, Scene.NONE, 0, 0, 0, Scene.NONE, Scene.NONE, 0);
    }

    private static void figuresOutside() {
        FacetFigures x = scene();
        c.due("what 5", x.figure(0, 0, 0, 5), Scene.OUTSIDE);
        c.due("what -1", x.figure(0, 0, 0, -1), Scene.OUTSIDE);
        c.due("what 5 of all", x.figure(0, Scene.NONE, 0, 5), Scene.OUTSIDE);
        c.due("column 6", x.figure(0, 0, 6, 0), Scene.OUTSIDE);
        c.due("column -1 of all", x.figure(0, Scene.NONE, -1, 0), Scene.OUTSIDE);
        c.due("group 3", x.figure(0, 3, 0, 0), Scene.OUTSIDE);
        c.due("group -1", x.figure(0, -1, 0, 0), Scene.OUTSIDE);
        c.due("no such facet", x.figure(1, 0, 0, 0), Scene.OUTSIDE);
        c.due("no such facet", x.figure(-1, 0, 0, 0), Scene.OUTSIDE);
    }

    private static void greatSums() {
        FacetFigures x = new FacetFigures();
        x.facet(Scene.WORDS, 0, 0, 0);
        x.order(0, 2, 0);
        for (int o = 0; o < 90; o++) {
            int v = o % 2 == 0 ? 1000000000 : -1000000000;
            Scene.matching(x, 0, v, v, v);
        }
        c.due("groups", x.groups(0), 2);
        dueFigures(x, 0, 0, 0, 135, 135000000000L, 1000000000, 1000000000, 1);
        dueFigures(x, 0, 1, 0, 135, -135000000000L, -1000000000, -1000000000, 1);
        dueFigures(x, 0, Scene.NONE, 0, 270, 0, -1000000000, 1000000000, 2);
    }

    private static void withinGroups() {
        FacetFigures x = scene();
        x.enter(0, 1);
        dueFigures(x, 0, Scene.NONE, 4, 3, 21, 5, 8, 2);
        dueFigures(x, 0, x.find(0, 1), 4, 2, 13, 5, 8, 2);
        c.due("place of all at hand", x.place(7, Scene.NONE, 4, 34), 8);
        x.leave();
        dueFigures(x, 0, Scene.NONE, 4, 7, 128, -3, 100, 4);
    }

    private static void places() {
        FacetFigures x = new FacetFigures();
        int[] values = {70, -10, 30, 50, 20, 60, 10, 40, 0, 30};
        for (int k = 0; k < values.length; k++) {
            if (k % 3 == 0) {
                x.match(x.object(), true);
            }
            x.value(k / 3, 1, values[k]);
        }
        int[] bySize = {-10, 0, 10, 20, 30, 30, 40, 50, 60, 70};
        for (int percent = 0; percent <= 100; percent++) {
            int number = Math.max(1, (int) Math.ceil(percent / 10.0));
            c.due("place " + percent, x.place(0, Scene.NONE, 1, percent), bySize[number - 1]);
        }
        x.facet(Scene.WORDS, 1, 0, 0);
        c.due("place of a group", x.place(0, x.find(0, 0), 1, 50), 10);
        c.due("place of a group", x.place(0, x.find(0, 0), 1, 67), 40);
    }

    private static void placesOfOneAndTwo() {
        FacetFigures x = new FacetFigures();
        Scene.matching(x, 2, 9);
        for (int percent = 0; percent <= 100; percent += 50) {
            c.due("place of one", x.place(0, Scene.NONE, 2, percent), 9);
        }
        Scene.matching(x, 2, -9);
        c.due("place 0 of two", x.place(0, Scene.NONE, 2, 0), -9);
        c.due("place 50 of two", x.place(0, Scene.NONE, 2, 50), -9);
        c.due("place 51 of two", x.place(0, Scene.NONE, 2, 51), 9);
        c.due("place 100 of two", x.place(0, Scene.NONE, 2, 100), 9);
        c.due("place of none", x.place(0, Scene.NONE, 3, 50), Scene.NONE);
        x.facet(Scene.WORDS, 2, 0, 0);
        c.due("place of none in a group", x.place(0, 0, 3, 0), Scene.NONE);
    }

    private static void placesOutside() {
        FacetFigures x = scene();
        c.due("percent -1", x.place(0, 0, 4, -1), Scene.OUTSIDE);
        c.due("percent 101", x.place(0, 0, 4, 101), Scene.OUTSIDE);
        c.due("percent 101 of none", x.place(0, Scene.NONE, 5, 101), Scene.OUTSIDE);
        c.due("column 6", x.place(0, 0, 6, 50), Scene.OUTSIDE);
        c.due("column -1 of all", x.place(0, Scene.NONE, -1, 50), Scene.OUTSIDE);
        c.due("group 3", x.place(0, 3, 4, 50), Scene.OUTSIDE);
        c.due("group -1", x.place(0, -1, 4, 50), Scene.OUTSIDE);
        c.due("no such facet", x.place(1, 0, 4, 50), Scene.OUTSIDE);
        c.due("no such facet", x.place(-1, 0, 4, 50), Scene.OUTSIDE);
    }
}
