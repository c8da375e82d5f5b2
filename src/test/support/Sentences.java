import java.util.ArrayList;
import java.util.Arrays;
import java.util.List;

/**
 * Sentences of the document, each with a run of calls on a new object that would answer otherwise if it did not hold.
 * A run is written as rows:
 * <pre>
 *   value(0, 5, 7) = 1               a call and the answer that is due
 *   match(0, true)                   a call that must not be refused
 *   120 times object() = #           so many alike; # is how many of them were made before
 *   thing 0: 5 6; 3: 9               one more object that matches, with values by column
 *   list(0) = 5:2 6:1 missing:1      all groups of a facet by number, each with how many objects it has
 *   members(0, 1) = 0 2              the objects that are in a group of a facet
 *   figures(0, 1, 5) = 2 16 7 9 2    all figures of a group for a column
 * </pre>
 * "nothing" stands for an empty answer. Behind every call that is due to be refused it is looked at whether
 * anything changed.
 */
final class Sentences {
    private static final String NOTHING = "nothing";
    private static final String TIMES = " times ";
    private static final String IS = " = ";

    private final Check check = new Check();

    void holds(String sentence, String... rows) {
        Taped x = new Taped();
        for (String row : rows) {
            int times = row.contains(TIMES) ? Integer.parseInt(row.substring(0, row.indexOf(TIMES))) : 1;
            String one = row.contains(TIMES) ? row.substring(row.indexOf(TIMES) + TIMES.length()) : row;
            for (int k = 0; k < times; k++) {
                run(sentence + " | " + row, x, one.replace("#", String.valueOf(k)), k == 0);
            }
        }
    }

    /** For what needs more than one object. */
    void due(String sentence, long got, long want) {
        check.due(sentence, got, want);
    }

    /** The same rows first, then others. */
    static String[] join(String[] first, String... more) {
        List<String> all = new ArrayList<>(Arrays.asList(first));
        all.addAll(Arrays.asList(more));
        return all.toArray(new String[0]);
    }

    void end() {
        check.end();
    }

    private void run(String where, Taped x, String row, boolean first) {
        if (row.startsWith("thing")) {
            makeThing(where, x, row.substring("thing".length()).trim());
            return;
        }
        int is = row.indexOf(IS);
        String call = is < 0 ? row : row.substring(0, is);
        String due = is < 0 ? "" : row.substring(is + IS.length());
        if (call.startsWith("list(")) {
            dueText(where, list(x, Call.read(call).arg(0)), due);
        } else if (call.startsWith("members(")) {
            dueText(where, members(x, Call.read(call)), due);
        } else if (call.startsWith("figures(")) {
            dueText(where, figures(x, Call.read(call)), due);
        } else {
            runCall(where, x, Call.read(call), due, first);
        }
    }

    private void runCall(String where, Taped x, Call call, String due, boolean first) {
        List<Call> before = x.callsSoFar();
        long got = x.make(call);
        if (due.isEmpty()) {
            check.due(where + ": refused", Call.isRefusal(got) ? got : 0, 0);
            return;
        }
        long want = Call.number(due);
        check.due(where, got, want);
        if (first && Call.isRefusal(want)) {
            String found = Unchanged.difference(before, call);
            check.due(where + ": it changed something: " + found, found.isEmpty() ? 0 : 1, 0);
        }
    }

    private void dueText(String where, String got, String want) {
        check.due(where + " [" + got + "]", got.equals(want) ? 1 : 0, 1);
    }

    private void makeThing(String where, Taped x, String cells) {
        int object = (int) x.make(new Call("object"));
        check.due(where + ": no object", Call.isRefusal(object) ? object : 0, 0);
        check.due(where + ": match", x.make(new Call("match", object, 1)), 0);
        if (cells.isEmpty()) {
            return;
        }
        for (String cell : cells.split(" *; *")) {
            String[] words = cell.split("[: ]+");
            int column = Integer.parseInt(words[0]);
            for (int k = 1; k < words.length; k++) {
                long many = x.make(new Call("value", object, column, Integer.parseInt(words[k])));
                check.due(where + ": value", many, k);
            }
        }
    }

    private static String list(Taped x, int facet) {
        long many = x.make(new Call("groups", facet));
        StringBuilder text = new StringBuilder(many < 0 ? "refused" : "");
        for (int i = 0; i < many; i++) {
            String key = name(x.make(new Call("group", facet, i, 0)));
            long size = x.make(new Call("group", facet, i, 1));
            boolean isMissing = x.make(new Call("group", facet, i, 2)) == 1;
            String head = isMissing && key.equals("NONE") ? "missing" : isMissing ? "missing with key " + key : key;
            text.append(i == 0 ? "" : " ").append(head).append(':').append(size);
        }
        return text.length() == 0 ? NOTHING : text.toString();
    }

    private static String name(long number) {
        return number == FacetFigures.NONE ? "NONE" : String.valueOf(number);
    }

    private static String members(Taped x, Call group) {
        long objects = x.make(new Call("told", 0));
        StringBuilder text = new StringBuilder();
        for (int o = 0; o < objects; o++) {
            long is = x.make(new Call("in", group.arg(0), group.arg(1), o));
            if (is != 0) {
                text.append(text.length() == 0 ? "" : " ").append(is == 1 ? "" : "refused ").append(o);
            }
        }
        return text.length() == 0 ? NOTHING : text.toString();
    }

    private static String figures(Taped x, Call group) {
        StringBuilder text = new StringBuilder();
        for (int what = 0; what <= 4; what++) {
            long figure = x.make(new Call("figure", group.arg(0), group.arg(1), group.arg(2), what));
            text.append(what == 0 ? "" : " ").append(name(figure));
        }
        return text.toString();
    }
}
