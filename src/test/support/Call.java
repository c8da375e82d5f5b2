/** A call of the program, also read from a text such as "value(0, 5, 7)", where names stand for some numbers. */
final class Call {
    private final String name;
    private final int[] args;

    Call(String name, int... args) {
        this.name = name;
        this.args = args;
    }

    static Call read(String text) {
        int open = text.indexOf('(');
        if (open < 0 || !text.endsWith(")")) {
            throw new IllegalArgumentException("no call: " + text);
        }
        String inside = text.substring(open + 1, text.length() - 1).trim();
        String[] words = inside.isEmpty() ? new String[0] : inside.split(" *, *");
        int[] args = new int[words.length];
        for (int k = 0; k < words.length; k++) {
            args[k] = Math.toIntExact(number(words[k]));
        }
        return new Call(text.substring(0, open), args);
    }

    static long number(String word) {
        switch (word) {
            case "NONE":
                return FacetFigures.NONE;
            case "OUTSIDE":
                return FacetFigures.OUTSIDE;
            case "STATE":
                return FacetFigures.STATE;
            case "ROOM":
                return FacetFigures.ROOM;
            case "MIN":
                return Integer.MIN_VALUE;
            case "MAX":
                return Integer.MAX_VALUE;
            case "true":
                return 1;
            case "false":
                return 0;
            default:
                return Long.parseLong(word);
        }
    }

    static boolean isRefusal(long answer) {
        return answer == FacetFigures.OUTSIDE || answer == FacetFigures.STATE || answer == FacetFigures.ROOM;
    }

    int arg(int k) {
        return args[k];
    }

    long on(FacetFigures x) {
        switch (name + "/" + args.length) {
            case "object/0":
                return x.object();
            case "value/3":
                return x.value(args[0], args[1], args[2]);
            case "match/2":
                return x.match(args[0], args[1] != 0);
            case "clear/0":
                return x.clear();
            case "facet/4":
                return x.facet(args[0], args[1], args[2], args[3]);
            case "range/3":
                return x.range(args[0], args[1], args[2]);
            case "filter/4":
                return x.filter(args[0], args[1], args[2], args[3]);
            case "least/2":
                return x.least(args[0], args[1]);
            case "missing/2":
                return x.missing(args[0], args[1] != 0);
            case "order/3":
                return x.order(args[0], args[1], args[2]);
            default:
                return ask(x);
        }
    }

    private long ask(FacetFigures x) {
        switch (name + "/" + args.length) {
            case "groups/1":
                return x.groups(args[0]);
            case "group/3":
                return x.group(args[0], args[1], args[2]);
            case "find/2":
                return x.find(args[0], args[1]);
            case "in/3":
                return x.in(args[0], args[1], args[2]);
            case "enter/2":
                return x.enter(args[0], args[1]);
            case "leave/0":
                return x.leave();
            case "hand/0":
                return x.hand();
            case "figure/4":
                return x.figure(args[0], args[1], args[2], args[3]);
            case "place/4":
                return x.place(args[0], args[1], args[2], args[3]);
            case "told/1":
                return x.told(args[0]);
            default:
                throw new IllegalArgumentException("no such call: " + this);
        }
    }

    @Override
    public String toString() {
        StringBuilder text = new StringBuilder(name).append('(');
        for (int k = 0; k < args.length; k++) {
            text.append(k == 0 ? "" : ", ").append(args[k]);
        }
        return text.append(')').toString();
    }
}
