/** Short ways to set an object of FacetFigures up for a test. */
final class Scene {
    static final int NONE = FacetFigures.NONE;
    static final int OUTSIDE = FacetFigures.OUTSIDE;
    static final int STATE = FacetFigures.STATE;
    static final int ROOM = FacetFigures.ROOM;

    static final int WORDS = 0;
    static final int PATHS = 1;
    static final int RANGES = 2;
    static final int STEPS = 3;
    static final int CALENDAR = 4;

    private Scene() {
    }

    /** One more object that matches, with these values in a column: its number. */
    static int matching(FacetFigures x, int column, int... values) {
        int object = x.object();
        x.match(object, true);
        for (int v : values) {
            x.value(object, column, v);
        }
        return object;
    }

    /** The keys of a facet's groups by number, each with how many objects it has, as text. */
    static String list(FacetFigures x, int facet) {
        StringBuilder text = new StringBuilder();
        int many = x.groups(facet);
        for (int i = 0; i < many; i++) {
            String key = x.group(facet, i, 2) == 1 ? "missing" : String.valueOf(x.group(facet, i, 0));
            text.append(i == 0 ? "" : " ").append(key).append(':').append(x.group(facet, i, 1));
        }
        return text.toString();
    }

    static void dueList(Check c, String what, FacetFigures x, int facet, String want) {
        String got = list(x, facet);
        c.due(what + ": [" + got + "] for [" + want + "]", got.equals(want) ? 1 : 0, 1);
    }
}
