/** All promises: runs of calls picked at random, each answer against the model's. */
public final class RandomRunsTest {
    public static void main(String[] args) {
        Check c = new Check();
        for (int seed = 1; seed <= 3000; seed++) {
            // The program is asked by Calls too, so a run ends well ahead of its 512th call.
            Calls calls = new Calls(seed, new FacetFigures(), new Model());
            for (int k = 0; k < 250; k++) {
                calls.next();
                String text = calls.got() == calls.want() ? "" : "seed " + seed + ", call " + k + ": " + calls.call();
                c.due(text, calls.got(), calls.want());
            }
        }
        c.end();
    }
}
