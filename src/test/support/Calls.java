import java.util.Random;

/** Picks calls at random, the same ones for the same seed, and makes them on the program, the model, or both. */
final class Calls {
    private static final int NONE = FacetFigures.NONE;
    private static final int[] EDGES = {
        Integer.MIN_VALUE, Integer.MAX_VALUE, NONE, FacetFigures.OUTSIDE, -1000000001, 1000000001, -1, 0, 1, 2000000000,
    };
    private static final int[] VALUES = {
        0, 1, -1, 2, 3, 58, 59, 60, 365, 789, 790, -306, -307, 10957, 11016, -719528, -1000000, 1000000, 1000001,
        -1000001, 10000, 9999, 999999, 120000, 123400, 123456, 123457, 120056, 990099, -1000000000, 1000000000,
    };
    private static final int[] STEPS = {1, 2, 7, 10, 1000, 999983, 1000000};

    private final Random random;
    private final FacetFigures program;
    private final Model model;
    private int objects = 0;
    private int facets = 0;
    private boolean asking = false;
    private String call = "";
    private long got = 0;
    private long want = 0;

    /** With model null only the program is called. */
    Calls(long seed, FacetFigures program, Model model) {
        this.random = new Random(seed);
        this.program = program;
        this.model = model;
    }

    String call() {
        return call;
    }

    long got() {
        return got;
    }

    long want() {
        return want;
    }

    /** Rarely an edge, so that most calls are not refused. */
    private int pick(int bound) {
        return random.nextInt(40) == 0 ? EDGES[random.nextInt(EDGES.length)] : random.nextInt(Math.max(1, bound));
    }

    private int pickValue() {
        switch (random.nextInt(8)) {
            case 0:
                return random.nextInt(2000000001) - 1000000000;
            case 1:
                return random.nextInt(2200001) - 1100000;
            case 2:
            case 3:
                return VALUES[random.nextInt(VALUES.length)];
            case 4:
                return (random.nextInt(3) + 1) * 10000 + random.nextInt(3) * 100 + random.nextInt(3);
            default:
                return pick(6);
        }
    }

    private int pickGroup() {
        return random.nextInt(6) == 0 ? NONE : pick(random.nextBoolean() ? 3 : 12);
    }

    /**
     * Objects and facets are made often while there are few, and clear is rare, so that runs get far; at times
     * only questions are asked, so that groups stay entered.
     */
    private int pickWhich() {
        if (random.nextInt(asking ? 60 : 80) == 0) {
            asking = !asking;
        }
        if (asking) {
            return 11 + random.nextInt(10);
        }
        if (random.nextInt(objects < 8 ? 3 : 12) == 0) {
            return 0;
        }
        if (random.nextInt(facets < 3 ? 6 : 60) == 0) {
            return 4;
        }
        int which = 1 + random.nextInt(26);
        return which == 3 && random.nextInt(20) != 0 ? 1 : which;
    }

    void next() {
        int which = pickWhich();
        if (which <= 10) {
            change(which);
        } else if (which >= 21) {
            value();
        } else {
            ask(which);
        }
    }

    private void value() {
        int o = pick(objects);
        int column = random.nextInt(3) == 0 ? pick(6) : pick(2);
        int v = pickValue();
        answer("value(" + o + ", " + column + ", " + v + ")", program.value(o, column, v),
            model == null ? 0 : model.value(o, column, v));
    }

    private void facet() {
        int kind = pick(5);
        int column = random.nextInt(3) == 0 ? pick(6) : pick(2);
        int a = kind == 3 ? STEPS[random.nextInt(STEPS.length)] : pick(5);
        int b = pick(kind == 3 ? a : 5);
        answer("facet(" + kind + ", " + column + ", " + a + ", " + b + ")", program.facet(kind, column, a, b),
            model == null ? 0 : model.facet(kind, column, a, b));
        facets = program.told(2);
    }

    private void change(int which) {
        int f = pick(facets);
        int n = pickValue();
        int m = random.nextInt(4) == 0 ? pickValue() : Math.max(n, pickValue());
        int column = random.nextInt(5) == 0 ? NONE : pick(6);
        boolean flag = random.nextInt(4) != 0;
        int small = pick(random.nextBoolean() ? 3 : 121);
        switch (which) {
            case 0:
                answer("object()", program.object(), model == null ? 0 : model.object());
                objects = program.told(0);
                break;
            case 1:
            case 2:
                int o = pick(objects);
                answer("match(" + o + ", " + flag + ")", program.match(o, flag),
                    model == null ? 0 : model.match(o, flag));
                break;
            case 3:
                answer("clear()", program.clear(), model == null ? 0 : model.clear());
                objects = 0;
                facets = 0;
                break;
            case 4:
                facet();
                break;
            case 5:
            case 6:
                answer("range(" + f + ", " + n + ", " + m + ")", program.range(f, n, m),
                    model == null ? 0 : model.range(f, n, m));
                break;
            case 7:
                answer("filter(" + f + ", " + column + ", " + n + ", " + m + ")", program.filter(f, column, n, m),
                    model == null ? 0 : model.filter(f, column, n, m));
                break;
            case 8:
                answer("least(" + f + ", " + small + ")", program.least(f, small),
                    model == null ? 0 : model.least(f, small));
                break;
            case 9:
                answer("missing(" + f + ", " + flag + ")", program.missing(f, flag),
                    model == null ? 0 : model.missing(f, flag));
                break;
            default:
                int how = pick(3);
                answer("order(" + f + ", " + how + ", " + column + ")", program.order(f, how, column),
                    model == null ? 0 : model.order(f, how, column));
                break;
        }
    }

    private void ask(int which) {
        int f = pick(facets);
        int i = pickGroup();
        int column = pick(6);
        int what = pick(5);
        switch (which) {
            case 11:
                answer("groups(" + f + ")", program.groups(f), model == null ? 0 : model.groups(f));
                break;
            case 12:
                answer("group(" + f + ", " + i + ", " + what + ")", program.group(f, i, what),
                    model == null ? 0 : model.group(f, i, what));
                break;
            case 13:
                int key = random.nextInt(4) == 0 ? pickValue() : program.group(f, i, 0);
                answer("find(" + f + ", " + key + ")", program.find(f, key), model == null ? 0 : model.find(f, key));
                break;
            case 14:
                int o = pick(objects);
                answer("in(" + f + ", " + i + ", " + o + ")", program.in(f, i, o),
                    model == null ? 0 : model.in(f, i, o));
                break;
            case 15:
                answer("enter(" + f + ", " + i + ")", program.enter(f, i), model == null ? 0 : model.enter(f, i));
                break;
            case 16:
                answer("leave()", program.leave(), model == null ? 0 : model.leave());
                break;
            case 17:
                answer("hand()", program.hand(), model == null ? 0 : model.hand());
                break;
            case 18:
                answer("figure(" + f + ", " + i + ", " + column + ", " + what + ")",
                    program.figure(f, i, column, what), model == null ? 0 : model.figure(f, i, column, what));
                break;
            case 19:
                int percent = pick(101);
                answer("place(" + f + ", " + i + ", " + column + ", " + percent + ")",
                    program.place(f, i, column, percent), model == null ? 0 : model.place(f, i, column, percent));
                break;
            default:
                answer("told(" + what + ")", program.told(what), model == null ? 0 : model.told(what));
                break;
        }
    }

    private void answer(String told, long programs, long models) {
        call = told;
        got = programs;
        want = model == null ? programs : models;
    }
}
