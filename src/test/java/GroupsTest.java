/** Promises 12 (groups), 13 (group), 14 (find) and 15 (in). */
public final class GroupsTest {
    private static final Check c = new Check();

    public static void main(String[] args) {
        groups();
        group();
        find();
        in();
        groupsFollowChanges();
        c.end();
    }

    /** Words 5 (objects 0, 1), 6 (objects 1, 2); object 3 has none; object 4 does not match. */
    private static FacetFigures scene() {
        FacetFigures x = new FacetFigures();
        Scene.matching(x, 0, 5);
        Scene.matching(x, 0, 5, 6);
        Scene.matching(x, 0, 6, 6);
        Scene.matching(x, 1, 9);
        Scene.matching(x, 0, 7);
        x.match(4, false);
        x.facet(Scene.WORDS, 0, 0, 0);
        x.missing(0, true);
        return x;
    }

    private static void groups() {
        FacetFigures x = scene();
        c.due("groups", x.groups(0), 3);
        c.due("no such facet", x.groups(1), Scene.OUTSIDE);
        c.due("no such facet", x.groups(-1), Scene.OUTSIDE);
        c.due("no such facet", x.groups(Scene.NONE), Scene.OUTSIDE);
        x.facet(Scene.WORDS, 5, 0, 0);
        c.due("a column without values", x.groups(1), 0);
        x.missing(1, true);
        Scene.dueList(c, "all are missing", x, 1, "missing:4");
        Scene.dueList(c, "one facet after the other", x, 0, "5:2 6:2 missing:1");
        Scene.dueList(c, "and back", x, 1, "missing:4");
    }

    private static void group() {
        FacetFigures x = scene();
        int[][] want = {{5, 2, 0}, {6, 2, 0}, {Scene.NONE, 1, 1}};
        for (int i = 0; i < 3; i++) {
            for (int what = 0; what < 3; what++) {
                c.due("group " + i + " " + what, x.group(0, i, what), want[i][what]);
            }
        }
        c.due("what 3", x.group(0, 0, 3), Scene.OUTSIDE);
        c.due("what -1", x.group(0, 0, -1), Scene.OUTSIDE);
        c.due("group 3", x.group(0, 3, 0), Scene.OUTSIDE);
        c.due("group -1", x.group(0, -1, 0), Scene.OUTSIDE);
        c.due("group NONE", x.group(0, Scene.NONE, 0), Scene.OUTSIDE);
        c.due("no such facet", x.group(1, 0, 0), Scene.OUTSIDE);
        c.due("no such facet", x.group(-1, 0, 0), Scene.OUTSIDE);
    }

    private static void find() {
        FacetFigures x = scene();
        c.due("find 5", x.find(0, 5), 0);
        c.due("find 6", x.find(0, 6), 1);
        c.due("find 7, which does not match", x.find(0, 7), Scene.NONE);
        c.due("find one that no value has", x.find(0, Integer.MAX_VALUE), Scene.NONE);
        c.due("find one that no value may be", x.find(0, 2000000000), Scene.NONE);
        c.due("the missing are there", x.group(0, 2, 2), 1);
        c.due("group tells NONE of the missing", x.group(0, 2, 0), Scene.NONE);
        c.due("the missing have no key", x.find(0, Scene.NONE), Scene.NONE);
        c.due("no such facet", x.find(1, 5), Scene.OUTSIDE);
        c.due("no such facet", x.find(-1, 5), Scene.OUTSIDE);
        x.missing(0, false);
        c.due("the missing, not asked for", x.find(0, Scene.NONE), Scene.NONE);
        findWhereOnlyTheMissingAre();
    }

    private static void findWhereOnlyTheMissingAre() {
        for (int kind = 0; kind < 5; kind++) {
            FacetFigures x = new FacetFigures();
            x.object();
            x.match(0, true);
            x.facet(kind, 0, kind == 3 ? 1 : 0, 0);
            x.missing(0, true);
            c.due("kind " + kind + ": the missing alone", x.groups(0), 1);
            c.due("kind " + kind + ": find NONE", x.find(0, Scene.NONE), Scene.NONE);
            c.due("kind " + kind + ": find 2000000000", x.find(0, 2000000000), Scene.NONE);
            x.enter(0, 0);
            c.due("kind " + kind + ": find NONE within the missing", x.find(0, Scene.NONE), Scene.NONE);
        }
    }

    private static void in() {
        FacetFigures x = scene();
        int[][] want = {{1, 1, 0, 0, 0}, {0, 1, 1, 0, 0}, {0, 0, 0, 1, 0}};
        for (int i = 0; i < 3; i++) {
            for (int o = 0; o < 5; o++) {
                c.due("in " + i + " " + o, x.in(0, i, o), want[i][o]);
            }
        }
        c.due("object 5", x.in(0, 0, 5), Scene.OUTSIDE);
        c.due("object -1", x.in(0, 0, -1), Scene.OUTSIDE);
        c.due("group 3", x.in(0, 3, 0), Scene.OUTSIDE);
        c.due("group -1", x.in(0, -1, 0), Scene.OUTSIDE);
        c.due("no such facet", x.in(1, 0, 0), Scene.OUTSIDE);
    }

    /** Every call that changes something shows in groups that were already asked for. */
    private static void groupsFollowChanges() {
        FacetFigures x = scene();
        Scene.dueList(c, "at first", x, 0, "5:2 6:2 missing:1");
        x.value(3, 0, 6);
        Scene.dueList(c, "after value", x, 0, "6:3 5:2");
        x.match(4, true);
        Scene.dueList(c, "after match", x, 0, "6:3 5:2 7:1");
        x.order(0, 1, 0);
        Scene.dueList(c, "after order", x, 0, "5:2 6:3 7:1");
        x.least(0, 2);
        Scene.dueList(c, "after least", x, 0, "5:2 6:3");
        x.filter(0, 1, 9, 9);
        Scene.dueList(c, "after filter", x, 0, "");
        x.least(0, 1);
        Scene.dueList(c, "after least", x, 0, "6:1");
        x.filter(0, Scene.NONE, 0, 0);
        x.match(x.object(), true);
        Scene.dueList(c, "after object", x, 0, "5:2 6:3 7:1 missing:1");
        x.missing(0, false);
        Scene.dueList(c, "after missing", x, 0, "5:2 6:3 7:1");
        x.clear();
        c.due("after clear", x.groups(0), Scene.OUTSIDE);
        x.facet(Scene.RANGES, 0, 0, 0);
        Scene.matching(x, 0, 1);
        Scene.dueList(c, "after facet", x, 0, "");
        x.range(0, 0, 1);
        Scene.dueList(c, "after range", x, 0, "0:1");
    }
}
