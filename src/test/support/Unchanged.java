import java.util.List;

/**
 * That a refused call changes nothing: of two objects with the same calls behind them one makes it as well,
 * and both must answer alike whatever comes later. Each way of going on has two objects of its own.
 */
final class Unchanged {
    private static final int COLUMNS = 6;

    private interface Later {
        void goOn(Taped x);
    }

    private static final Later[] WAYS = {
        Unchanged::askFigures, Unchanged::askGroups, Unchanged::askMembers, Unchanged::leaveAll,
        Unchanged::enterMore, Unchanged::tellSettings, Unchanged::tellRanges, Unchanged::matchAll,
        Unchanged::makeMore, Unchanged::clear,
    };

    private Unchanged() {
    }

    /** The first answer that is another one, or "" if there is none. */
    static String difference(List<Call> before, Call refused) {
        for (Later way : WAYS) {
            String found = difference(before, refused, way);
            if (!found.isEmpty()) {
                return found;
            }
        }
        for (int column = 0; column < COLUMNS; column++) {
            int its = column;
            String found = difference(before, refused, x -> fillColumn(x, its));
            if (!found.isEmpty()) {
                return found;
            }
        }
        return "";
    }

    private static String difference(List<Call> before, Call refused, Later way) {
        Taped with = new Taped();
        Taped without = new Taped();
        with.makeAll(before);
        without.makeAll(before);
        with.make(refused);
        way.goOn(with);
        way.goOn(without);
        List<String> got = with.tapeFrom(before.size() + 1);
        List<String> want = without.tapeFrom(before.size());
        // The one that made a call more reaches its 512th call earlier.
        for (int k = 0; k < got.size(); k++) {
            if (!got.get(k).equals(want.get(k))) {
                return got.get(k) + " for " + want.get(k);
            }
        }
        return "";
    }

    private static int objects(Taped x) {
        return (int) x.makeIfAllowed("told", 0);
    }

    private static int facets(Taped x) {
        return (int) x.makeIfAllowed("told", 2);
    }

    private static void askFigures(Taped x) {
        for (int what = 0; what <= 3; what++) {
            x.makeIfAllowed("told", what);
        }
        x.makeIfAllowed("hand");
        for (int column = 0; column < COLUMNS; column++) {
            for (int what = 0; what <= 4; what++) {
                x.makeIfAllowed("figure", 0, FacetFigures.NONE, column, what);
            }
            x.makeIfAllowed("place", 0, FacetFigures.NONE, column, 50);
        }
    }

    private static void askGroups(Taped x) {
        int facets = facets(x);
        for (int f = 0; f < facets; f++) {
            int groups = (int) x.makeIfAllowed("groups", f);
            for (int i = 0; i < groups; i++) {
                for (int what = 0; what <= 2; what++) {
                    x.makeIfAllowed("group", f, i, what);
                }
            }
        }
    }

    private static void askMembers(Taped x) {
        int objects = objects(x);
        int facets = facets(x);
        for (int f = 0; f < facets; f++) {
            int groups = (int) x.makeIfAllowed("groups", f);
            for (int i = 0; i < groups; i++) {
                for (int o = 0; o < objects; o++) {
                    x.makeIfAllowed("in", f, i, o);
                }
            }
        }
    }

    /** One more time than groups can have been entered. */
    private static void leaveAll(Taped x) {
        for (int k = 0; k < 7; k++) {
            x.makeIfAllowed("leave");
            x.makeIfAllowed("hand");
            x.makeIfAllowed("groups", 0);
        }
    }

    private static void enterMore(Taped x) {
        int facets = facets(x);
        for (int k = 0; k < 7; k++) {
            for (int f = 0; f < facets; f++) {
                x.makeIfAllowed("enter", f, 0);
            }
        }
    }

    private static void tellSettings(Taped x) {
        int facets = facets(x);
        for (int f = 0; f < facets; f++) {
            x.makeIfAllowed("filter", f, FacetFigures.NONE, 0, 0);
            x.makeIfAllowed("least", f, 0);
            x.makeIfAllowed("missing", f, 1);
            x.makeIfAllowed("order", f, 1, 0);
        }
        askGroups(x);
    }

    private static void tellRanges(Taped x) {
        int facets = facets(x);
        for (int f = 0; f < facets; f++) {
            for (int k = 0; k < 7; k++) {
                x.makeIfAllowed("range", f, 0, 100);
            }
        }
        askGroups(x);
    }

    private static void matchAll(Taped x) {
        int objects = objects(x);
        for (int o = 0; o < objects; o++) {
            x.makeIfAllowed("match", o, 1);
        }
        askFigures(x);
        askGroups(x);
    }

    private static void makeMore(Taped x) {
        for (int k = 0; k < 3; k++) {
            int object = (int) x.makeIfAllowed("object");
            x.makeIfAllowed("match", object, 1);
            x.makeIfAllowed("facet", 0, 0, 0, 0);
        }
        x.makeIfAllowed("value", objects(x) - 1, 0, 5);
        askGroups(x);
    }

    private static void clear(Taped x) {
        x.makeIfAllowed("clear");
        askFigures(x);
        makeMore(x);
    }

    private static void fillColumn(Taped x, int column) {
        int objects = objects(x);
        for (int o = 0; o < objects; o++) {
            x.makeIfAllowed("value", o, column, 7);
        }
        askFigures(x);
    }
}
