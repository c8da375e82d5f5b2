/** That no call throws: any arguments, in any state, also after the 512th call, where the answers are free. */
public final class AnyCallsTest {
    public static void main(String[] args) {
        Check c = new Check();
        longRuns(c);
        fullRows(c);
        c.end();
    }

    private static void longRuns(Check c) {
        for (int seed = 1; seed <= 40; seed++) {
            Calls calls = new Calls(-seed, new FacetFigures(), null);
            for (int k = 0; k < 20000; k++) {
                calls.next();
            }
            c.due("long run", calls.got(), calls.want());
        }
    }

    /** 120 objects with 9 different keys each, and as many values as there may be; 512 calls do not get so far. */
    private static void fullRows(Check c) {
        FacetFigures x = new FacetFigures();
        x.facet(Scene.PATHS, 0, 0, 0);
        x.missing(0, true);
        x.order(0, 2, 0);
        for (int o = 0; o < 120; o++) {
            int[] three = new int[3];
            for (int k = 0; k < 3; k++) {
                int path = o * 3 + k;
                three[k] = (path % 90 + 1) * 10000 + (path / 90 + 1) * 100 + 7;
            }
            Scene.matching(x, 0, three);
        }
        for (int i = -1; i <= x.groups(0); i++) {
            x.group(0, i, 0);
            x.in(0, i, 119);
            x.figure(0, i, 0, 4);
            x.place(0, i, 0, 100);
        }
        c.due("full rows", 0, 0);
    }
}
