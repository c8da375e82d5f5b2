/** Promises 16 (enter), 17 (leave) and 18 (hand), and which calls leave all groups that were entered. */
public final class EnteringTest {
    private static final Check c = new Check();

    public static void main(String[] args) {
        enterAndLeave();
        enterOutside();
        mostEntered();
        theMissing();
        groupsFollowEnteringAndLeaving();
        anotherGroupAfterLeaving();
        changesLeaveAll();
        refusedChangesLeaveNone();
        questionsLeaveNone();
        c.end();
    }

    /** Column 0 is o % 2 and column 1 is o % 3, of objects 0 to 11 that match, and 12 that does not. */
    private static FacetFigures scene() {
        FacetFigures x = new FacetFigures();
        for (int o = 0; o < 13; o++) {
            Scene.matching(x, 0, o % 2);
            x.value(o, 1, o % 3);
        }
        x.match(12, false);
        x.facet(Scene.WORDS, 0, 0, 0);
        x.facet(Scene.WORDS, 1, 0, 0);
        return x;
    }

    private static void enterAndLeave() {
        FacetFigures x = scene();
        c.due("hand", x.hand(), 12);
        c.due("enter the odd ones", x.enter(0, 1), 6);
        c.due("hand", x.hand(), 6);
        Scene.dueList(c, "within", x, 0, "1:6");
        Scene.dueList(c, "within", x, 1, "0:2 1:2 2:2");
        c.due("enter", x.enter(1, 2), 2);
        c.due("hand", x.hand(), 2);
        c.due("told(3)", x.told(3), 2);
        c.due("told(1) tells all that match", x.told(1), 12);
        c.due("5 is there", x.in(0, 0, 5), 1);
        c.due("2 is not", x.in(0, 0, 2), 0);
        c.due("leave", x.leave(), 1);
        c.due("hand", x.hand(), 6);
        Scene.dueList(c, "within", x, 1, "0:2 1:2 2:2");
        c.due("leave", x.leave(), 0);
        c.due("hand", x.hand(), 12);
        Scene.dueList(c, "all", x, 0, "0:6 1:6");
        c.due("leave", x.leave(), Scene.STATE);
        c.due("hand", x.hand(), 12);
    }

    private static void enterOutside() {
        FacetFigures x = scene();
        c.due("no such facet", x.enter(2, 0), Scene.OUTSIDE);
        c.due("no such facet", x.enter(-1, 0), Scene.OUTSIDE);
        c.due("no such group", x.enter(0, 2), Scene.OUTSIDE);
        c.due("no such group", x.enter(0, -1), Scene.OUTSIDE);
        c.due("no such group", x.enter(0, Scene.NONE), Scene.OUTSIDE);
        c.due("told(3)", x.told(3), 0);
        c.due("hand", x.hand(), 12);
    }

    private static void mostEntered() {
        FacetFigures x = scene();
        c.due("enter", x.enter(0, 0), 6);
        for (int k = 0; k < 5; k++) {
            c.due("enter again", x.enter(1, 0), 2);
        }
        c.due("told(3)", x.told(3), 6);
        c.due("the 7th", x.enter(1, 0), Scene.ROOM);
        c.due("outside ahead of room", x.enter(1, 1), Scene.OUTSIDE);
        c.due("hand", x.hand(), 2);
        for (int k = 5; k >= 0; k--) {
            c.due("leave", x.leave(), k);
            c.due("hand", x.hand(), k == 0 ? 12 : k == 1 ? 6 : 2);
        }
        c.due("leave", x.leave(), Scene.STATE);
    }

    private static void theMissing() {
        FacetFigures x = scene();
        x.match(x.object(), true);
        x.missing(0, true);
        c.due("enter the missing", x.enter(0, 2), 1);
        c.due("13 is it", x.in(0, 0, 13), 1);
        Scene.dueList(c, "within", x, 0, "missing:1");
        Scene.dueList(c, "the other facet does not ask for them", x, 1, "");
        c.due("enter nothing", x.enter(1, 0), Scene.OUTSIDE);
        c.due("leave", x.leave(), 0);
    }

    /** With nothing else asked in between. */
    private static void groupsFollowEnteringAndLeaving() {
        FacetFigures x = scene();
        c.due("groups", x.groups(0), 2);
        x.enter(0, 1);
        c.due("groups within", x.groups(0), 1);
        x.leave();
        c.due("groups after leaving", x.groups(0), 2);
    }

    private static void anotherGroupAfterLeaving() {
        FacetFigures x = scene();
        x.enter(0, 0);
        x.enter(1, 0);
        x.leave();
        c.due("another group of those at hand", x.enter(1, 1), 2);
        Scene.dueList(c, "none of the group left", x, 1, "1:2");
        x.leave();
        x.leave();
        c.due("the odd ones", x.enter(0, 1), 6);
        Scene.dueList(c, "none of the even ones", x, 0, "1:6");
        c.due("hand", x.hand(), 6);
        c.due("enter", x.enter(1, 0), 2);
        c.due("hand", x.hand(), 2);
    }

    private static int change(FacetFigures x, int which) {
        switch (which) {
            case 0:
                return x.object();
            case 1:
                return x.value(0, 5, 1);
            case 2:
                return x.match(0, true);
            case 3:
                return x.facet(0, 0, 0, 0);
            case 4:
                return x.range(2, 0, 1);
            case 5:
                return x.filter(0, Scene.NONE, 0, 0);
            case 6:
                return x.least(0, 1);
            case 7:
                return x.missing(0, false);
            case 8:
                return x.order(0, 0, 0);
            default:
                return x.clear();
        }
    }

    private static void changesLeaveAll() {
        int[] want = {13, 1, 1, 3, 0, 0, 1, 0, 0, 13};
        for (int which = 0; which < want.length; which++) {
            FacetFigures x = scene();
            x.facet(Scene.RANGES, 0, 0, 0);
            x.enter(0, 0);
            x.enter(1, 0);
            c.due("change " + which, change(x, which), want[which]);
            c.due("entered after change " + which, x.told(3), 0);
            c.due("hand after change " + which, x.hand(), which == 9 ? 0 : 12);
            c.due("leave after change " + which, x.leave(), Scene.STATE);
        }
    }

    private static void refusedChangesLeaveNone() {
        FacetFigures x = scene();
        x.value(0, 0, 0);
        x.value(0, 0, 0);
        x.facet(Scene.RANGES, 0, 0, 0);
        for (int r = 0; r < 6; r++) {
            x.range(2, 0, 1);
        }
        for (int f = 3; f < 10; f++) {
            x.facet(0, 0, 0, 0);
        }
        for (int o = 13; o < 120; o++) {
            x.object();
        }
        x.enter(0, 0);
        x.enter(1, 0);
        c.due("object", x.object(), Scene.ROOM);
        c.due("value", x.value(0, 0, 0), Scene.ROOM);
        c.due("value", x.value(0, 6, 0), Scene.OUTSIDE);
        c.due("match", x.match(120, true), Scene.OUTSIDE);
        c.due("facet", x.facet(0, 0, 0, 0), Scene.ROOM);
        c.due("facet", x.facet(9, 0, 0, 0), Scene.OUTSIDE);
        c.due("range", x.range(2, 0, 1), Scene.ROOM);
        c.due("range", x.range(0, 0, 1), Scene.STATE);
        c.due("range", x.range(0, 1, 0), Scene.OUTSIDE);
        c.due("filter", x.filter(0, 0, 1, 0), Scene.OUTSIDE);
        c.due("least", x.least(0, 121), Scene.OUTSIDE);
        c.due("missing", x.missing(10, true), Scene.OUTSIDE);
        c.due("order", x.order(0, 3, 0), Scene.OUTSIDE);
        c.due("told(3)", x.told(3), 2);
        c.due("hand", x.hand(), 2);
        c.due("leave", x.leave(), 1);
        c.due("hand", x.hand(), 6);
    }

    private static void questionsLeaveNone() {
        FacetFigures x = scene();
        x.enter(0, 0);
        x.groups(1);
        x.group(1, 0, 0);
        x.find(1, 0);
        x.in(1, 0, 0);
        x.hand();
        x.figure(0, Scene.NONE, 0, 1);
        x.place(1, 0, 0, 50);
        x.told(0);
        c.due("told(3)", x.told(3), 1);
        c.due("hand", x.hand(), 6);
    }
}
