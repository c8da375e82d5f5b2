/** Promises 1 (a new object), 2 (object), 3 (value), 4 (match), 5 (clear) and 21 (told). */
public final class ObjectsTest {
    private static final Check c = new Check();

    public static void main(String[] args) {
        newObject();
        object();
        value();
        match();
        clear();
        told();
        c.end();
    }

    private static void newObject() {
        FacetFigures x = new FacetFigures();
        for (int what = 0; what <= 3; what++) {
            c.due("told of a new one", x.told(what), 0);
        }
        c.due("hand of a new one", x.hand(), 0);
        c.due("groups of a new one", x.groups(0), Scene.OUTSIDE);
        c.due("value of a new one", x.value(0, 0, 0), Scene.OUTSIDE);
        c.due("match of a new one", x.match(0, true), Scene.OUTSIDE);
        c.due("leave of a new one", x.leave(), Scene.STATE);
        c.due("clear of a new one", x.clear(), 0);
        c.due("NONE", FacetFigures.NONE, -2000000000L);
        c.due("OUTSIDE", FacetFigures.OUTSIDE, -2000000001L);
        c.due("STATE", FacetFigures.STATE, -2000000002L);
        c.due("ROOM", FacetFigures.ROOM, -2000000003L);
    }

    private static void object() {
        FacetFigures x = new FacetFigures();
        for (int o = 0; o < 120; o++) {
            c.due("object", x.object(), o);
        }
        c.due("object, the 121st", x.object(), Scene.ROOM);
        c.due("object, again", x.object(), Scene.ROOM);
        c.due("told(0)", x.told(0), 120);
        c.due("objects do not match at first", x.told(1), 0);
        c.due("match(119)", x.match(119, true), 0);
        c.due("match(120)", x.match(120, true), Scene.OUTSIDE);
    }

    private static void value() {
        FacetFigures x = new FacetFigures();
        x.object();
        x.match(0, true);
        for (int column = 0; column < 6; column++) {
            c.due("first value", x.value(0, column, -1000000000), 1);
            c.due("second value", x.value(0, column, 1000000000), 2);
            c.due("third value, alike", x.value(0, column, 1000000000), 3);
            c.due("fourth value", x.value(0, column, 5), Scene.ROOM);
            c.due("sum", x.figure(0, Scene.NONE, column, 1), 1000000000);
        }
        c.due("column -1", x.value(0, -1, 5), Scene.OUTSIDE);
        c.due("column 6", x.value(0, 6, 5), Scene.OUTSIDE);
        c.due("object -1", x.value(-1, 0, 5), Scene.OUTSIDE);
        c.due("object 1", x.value(1, 0, 5), Scene.OUTSIDE);
        c.due("object of extremes", x.value(Integer.MIN_VALUE, Integer.MAX_VALUE, 5), Scene.OUTSIDE);
        c.due("outside ahead of room, above", x.value(0, 0, 1000000001), Scene.OUTSIDE);
        c.due("outside ahead of room, below", x.value(0, 0, -1000000001), Scene.OUTSIDE);
        c.due("nothing changed", x.figure(0, Scene.NONE, 0, 0), 3);
        c.due("another object has room", x.object(), 1);
        c.due("its first value", x.value(1, 0, 0), 1);
        c.due("v least int", x.value(1, 0, Integer.MIN_VALUE), Scene.OUTSIDE);
        c.due("v greatest int", x.value(1, 0, Integer.MAX_VALUE), Scene.OUTSIDE);
        c.due("its second value", x.value(1, 0, 0), 2);
    }

    private static void match() {
        FacetFigures x = new FacetFigures();
        x.object();
        x.object();
        c.due("match(1, true)", x.match(1, true), 0);
        c.due("match(1, true) again", x.match(1, true), 1);
        c.due("hand", x.hand(), 1);
        c.due("match(0, false)", x.match(0, false), 0);
        c.due("match(1, false)", x.match(1, false), 1);
        c.due("match(1, false) again", x.match(1, false), 0);
        c.due("hand", x.hand(), 0);
        c.due("match(2)", x.match(2, true), Scene.OUTSIDE);
        c.due("match(-1)", x.match(-1, true), Scene.OUTSIDE);
        c.due("told(1)", x.told(1), 0);
    }

    private static void clear() {
        FacetFigures x = new FacetFigures();
        Scene.matching(x, 0, 7, 8, 9);
        Scene.matching(x, 5, 1);
        x.facet(Scene.RANGES, 0, 0, 0);
        x.range(0, 0, 10);
        x.filter(0, 0, 7, 7);
        x.least(0, 0);
        x.missing(0, true);
        x.order(0, 2, 3);
        x.enter(0, 0);
        c.due("clear", x.clear(), 2);
        for (int what = 0; what <= 3; what++) {
            c.due("told after clear", x.told(what), 0);
        }
        c.due("no values at hand after clear", x.figure(0, Scene.NONE, 0, 0), 0);
        c.due("groups after clear", x.groups(0), Scene.OUTSIDE);
        c.due("object after clear", x.object(), 0);
        c.due("it does not match", x.match(0, true), 0);
        c.due("it has no values", x.figure(0, Scene.NONE, 0, 0), 0);
        c.due("its first value", x.value(0, 0, 50), 1);
        c.due("facet after clear", x.facet(Scene.RANGES, 0, 0, 0), 0);
        c.due("it has no range", x.range(0, 0, 1), 0);
        c.due("it has no filter", x.filter(0, Scene.NONE, 0, 0), 0);
        c.due("its least is 1", x.least(0, 1), 1);
        c.due("it does not ask for the missing", x.missing(0, false), 0);
        c.due("its order is 0", x.order(0, 0, 0), 0);
        c.due("clear again", x.clear(), 1);
    }

    private static void told() {
        FacetFigures x = new FacetFigures();
        Scene.matching(x, 0, 4);
        Scene.matching(x, 0, 4);
        x.object();
        x.facet(Scene.WORDS, 0, 0, 0);
        x.facet(Scene.WORDS, 1, 0, 0);
        x.facet(Scene.WORDS, 1, 0, 0);
        x.facet(Scene.WORDS, 1, 0, 0);
        x.enter(0, 0);
        c.due("told(0)", x.told(0), 3);
        c.due("told(1)", x.told(1), 2);
        c.due("told(2)", x.told(2), 4);
        c.due("told(3)", x.told(3), 1);
        c.due("told(-1)", x.told(-1), Scene.OUTSIDE);
        c.due("told(4)", x.told(4), Scene.OUTSIDE);
        c.due("told changes nothing", x.told(3), 1);
    }
}
