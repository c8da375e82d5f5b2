import java.time.DayOfWeek;
import java.time.LocalDate;
import java.time.temporal.ChronoUnit;
import java.time.temporal.IsoFields;
import java.time.temporal.TemporalAdjusters;
import java.util.ArrayList;
import java.util.Comparator;
import java.util.HashSet;
import java.util.List;
import java.util.Map;
import java.util.Set;
import java.util.TreeMap;
import java.util.TreeSet;
import java.util.stream.Collectors;

/** The document once more, with the Java library and without any thought of speed, to compare answers with. */
final class Model {
    private static final int NONE = -2000000000;
    private static final int OUTSIDE = -2000000001;
    private static final int STATE = -2000000002;
    private static final int ROOM = -2000000003;

    private static final class Thing {
        boolean matches = false;
        final List<List<Integer>> columns = new ArrayList<>();

        Thing() {
            for (int k = 0; k < 6; k++) {
                columns.add(new ArrayList<>());
            }
        }
    }

    private static final class Aspect {
        int kind;
        int column;
        int a;
        int b;
        final List<int[]> ranges = new ArrayList<>();
        int[] filter = null;
        int least = 1;
        boolean missing = false;
        int how = 0;
        int sumColumn = 0;
    }

    private static final class Heap {
        final Integer key;
        final Set<Integer> members;

        Heap(Integer key, Set<Integer> members) {
            this.key = key;
            this.members = members;
        }
    }

    private final List<Thing> things = new ArrayList<>();
    private final List<Aspect> aspects = new ArrayList<>();
    private final List<Set<Integer>> entered = new ArrayList<>();

    int object() {
        if (things.size() == 120) {
            return ROOM;
        }
        entered.clear();
        things.add(new Thing());
        return things.size() - 1;
    }

    int value(int object, int column, int v) {
        if (noThing(object) || noColumn(column) || noValue(v)) {
            return OUTSIDE;
        }
        List<Integer> cell = things.get(object).columns.get(column);
        if (cell.size() == 3) {
            return ROOM;
        }
        entered.clear();
        cell.add(v);
        return cell.size();
    }

    int match(int object, boolean does) {
        if (noThing(object)) {
            return OUTSIDE;
        }
        entered.clear();
        int did = things.get(object).matches ? 1 : 0;
        things.get(object).matches = does;
        return did;
    }

    int clear() {
        int were = things.size();
        entered.clear();
        things.clear();
        aspects.clear();
        return were;
    }

    int facet(int kind, int column, int a, int b) {
        boolean steps = kind != 3 || (a >= 1 && a <= 1000000 && b >= 0 && b <= a - 1);
        boolean calendar = kind != 4 || (a >= 0 && a <= 4);
        if (kind < 0 || kind > 4 || noColumn(column) || !steps || !calendar) {
            return OUTSIDE;
        }
        if (aspects.size() == 10) {
            return ROOM;
        }
        entered.clear();
        Aspect one = new Aspect();
        one.kind = kind;
        one.column = column;
        one.a = a;
        one.b = b;
        aspects.add(one);
        return aspects.size() - 1;
    }

    int range(int facet, int from, int to) {
        if (noAspect(facet) || noValue(from) || noValue(to) || from > to) {
            return OUTSIDE;
        }
        Aspect one = aspects.get(facet);
        if (one.kind != 2) {
            return STATE;
        }
        if (one.ranges.size() == 6) {
            return ROOM;
        }
        entered.clear();
        one.ranges.add(new int[] {from, to});
        return one.ranges.size() - 1;
    }

    int filter(int facet, int column, int from, int to) {
        if (noAspect(facet)) {
            return OUTSIDE;
        }
        if (column != NONE && (noColumn(column) || from > to)) {
            return OUTSIDE;
        }
        entered.clear();
        int had = aspects.get(facet).filter == null ? 0 : 1;
        aspects.get(facet).filter = column == NONE ? null : new int[] {column, from, to};
        return had;
    }

    int least(int facet, int n) {
        if (noAspect(facet) || n < 0 || n > 120) {
            return OUTSIDE;
        }
        entered.clear();
        int was = aspects.get(facet).least;
        aspects.get(facet).least = n;
        return was;
    }

    int missing(int facet, boolean are) {
        if (noAspect(facet)) {
            return OUTSIDE;
        }
        entered.clear();
        int were = aspects.get(facet).missing ? 1 : 0;
        aspects.get(facet).missing = are;
        return were;
    }

    int order(int facet, int how, int column) {
        if (noAspect(facet) || how < 0 || how > 2 || (how == 2 && noColumn(column))) {
            return OUTSIDE;
        }
        entered.clear();
        int was = aspects.get(facet).how;
        aspects.get(facet).how = how;
        aspects.get(facet).sumColumn = column;
        return was;
    }

    int groups(int facet) {
        return noAspect(facet) ? OUTSIDE : heaps(facet).size();
    }

    int group(int facet, int i, int what) {
        if (noHeap(facet, i) || what < 0 || what > 2) {
            return OUTSIDE;
        }
        Heap heap = heaps(facet).get(i);
        boolean isMissing = heap.key == null;
        if (what == 0) {
            return isMissing ? NONE : heap.key;
        }
        return what == 1 ? heap.members.size() : isMissing ? 1 : 0;
    }

    int find(int facet, int key) {
        if (noAspect(facet)) {
            return OUTSIDE;
        }
        List<Heap> all = heaps(facet);
        for (int i = 0; i < all.size(); i++) {
            Integer own = all.get(i).key;
            if (own != null && own == key) {
                return i;
            }
        }
        return NONE;
    }

    int in(int facet, int i, int object) {
        if (noHeap(facet, i) || noThing(object)) {
            return OUTSIDE;
        }
        return heaps(facet).get(i).members.contains(object) ? 1 : 0;
    }

    int enter(int facet, int i) {
        if (noHeap(facet, i)) {
            return OUTSIDE;
        }
        if (entered.size() == 6) {
            return ROOM;
        }
        entered.add(heaps(facet).get(i).members);
        return hand();
    }

    int leave() {
        if (entered.isEmpty()) {
            return STATE;
        }
        entered.remove(entered.size() - 1);
        return entered.size();
    }

    int hand() {
        return atHand().size();
    }

    long figure(int facet, int i, int column, int what) {
        if (noColumn(column) || what < 0 || what > 4 || (i != NONE && noHeap(facet, i))) {
            return OUTSIDE;
        }
        List<Integer> all = values(facet, i, column);
        switch (what) {
            case 0:
                return all.size();
            case 1:
                return all.stream().mapToLong(Integer::longValue).sum();
            case 2:
                return all.isEmpty() ? NONE : all.get(0);
            case 3:
                return all.isEmpty() ? NONE : all.get(all.size() - 1);
            default:
                return new HashSet<>(all).size();
        }
    }

    int place(int facet, int i, int column, int percent) {
        if (noColumn(column) || percent < 0 || percent > 100 || (i != NONE && noHeap(facet, i))) {
            return OUTSIDE;
        }
        List<Integer> all = values(facet, i, column);
        if (all.isEmpty()) {
            return NONE;
        }
        int number = 1;
        while (number * 100 < percent * all.size()) {
            number++;
        }
        return all.get(number - 1);
    }

    int told(int what) {
        switch (what) {
            case 0:
                return things.size();
            case 1:
                return (int) things.stream().filter(t -> t.matches).count();
            case 2:
                return aspects.size();
            case 3:
                return entered.size();
            default:
                return OUTSIDE;
        }
    }

    private boolean noThing(int object) {
        return object < 0 || object >= things.size();
    }

    private boolean noAspect(int facet) {
        return facet < 0 || facet >= aspects.size();
    }

    private boolean noHeap(int facet, int i) {
        return noAspect(facet) || i < 0 || i >= heaps(facet).size();
    }

    private static boolean noColumn(int column) {
        return column < 0 || column > 5;
    }

    private static boolean noValue(int v) {
        return v < -1000000000 || v > 1000000000;
    }

    private Set<Integer> atHand() {
        Set<Integer> all = new TreeSet<>();
        for (int o = 0; o < things.size(); o++) {
            if (things.get(o).matches) {
                all.add(o);
            }
        }
        entered.forEach(all::retainAll);
        return all;
    }

    /** By size. */
    private List<Integer> values(int facet, int i, int column) {
        Set<Integer> whose = i == NONE ? atHand() : heaps(facet).get(i).members;
        return whose.stream().flatMap(o -> things.get(o).columns.get(column).stream()).sorted()
            .collect(Collectors.toList());
    }

    private List<Heap> heaps(int facet) {
        Aspect one = aspects.get(facet);
        Map<Integer, Set<Integer>> byKey = new TreeMap<>();
        Set<Integer> without = new TreeSet<>();
        for (int r = 0; one.kind == 2 && r < one.ranges.size(); r++) {
            byKey.put(r, new TreeSet<>());
        }
        for (int o : atHand()) {
            if (!counts(one, o)) {
                continue;
            }
            Set<Integer> keys = new TreeSet<>();
            things.get(o).columns.get(one.column).forEach(v -> keys.addAll(keys(one, v)));
            keys.forEach(k -> byKey.computeIfAbsent(k, x -> new TreeSet<>()).add(o));
            if (keys.isEmpty()) {
                without.add(o);
            }
        }
        List<Heap> all = new ArrayList<>();
        byKey.forEach((k, members) -> all.add(new Heap(k, members)));
        all.sort(comparator(one).thenComparing(h -> h.key));
        if (one.missing && !without.isEmpty()) {
            all.add(new Heap(null, without));
        }
        all.removeIf(h -> h.members.size() < one.least);
        return all;
    }

    private boolean counts(Aspect one, int object) {
        return one.filter == null || things.get(object).columns.get(one.filter[0]).stream()
            .anyMatch(v -> one.filter[1] <= v && v <= one.filter[2]);
    }

    private Comparator<Heap> comparator(Aspect one) {
        switch (one.how) {
            case 0:
                return Comparator.comparing((Heap h) -> h.members.size()).reversed();
            case 1:
                return Comparator.comparing((Heap h) -> h.key);
            default:
                return Comparator.comparing((Heap h) -> h.members.stream()
                    .flatMap(o -> things.get(o).columns.get(one.sumColumn).stream())
                    .mapToLong(Integer::longValue).sum()).reversed();
        }
    }

    private static List<Integer> keys(Aspect one, int v) {
        List<Integer> keys = new ArrayList<>();
        switch (one.kind) {
            case 0:
                keys.add(v);
                break;
            case 1:
                addPaths(v, keys);
                break;
            case 2:
                for (int r = 0; r < one.ranges.size(); r++) {
                    if (one.ranges.get(r)[0] <= v && v <= one.ranges.get(r)[1]) {
                        keys.add(r);
                    }
                }
                break;
            case 3:
                keys.add((int) (Math.floorDiv((long) v - one.b, (long) one.a) * one.a + one.b));
                break;
            default:
                if (v >= -1000000 && v <= 1000000) {
                    keys.add(firstDay(v, one.a));
                }
                break;
        }
        return keys;
    }

    private static void addPaths(int v, List<Integer> keys) {
        if (v < 10000 || v > 999999) {
            return;
        }
        String figures = String.format("%06d", v);
        String second = figures.substring(2, 4);
        String third = figures.substring(4);
        if (second.equals("00") && !third.equals("00")) {
            return;
        }
        keys.add(Integer.valueOf(figures.substring(0, 2) + "0000"));
        if (!second.equals("00")) {
            keys.add(Integer.valueOf(figures.substring(0, 4) + "00"));
        }
        if (!third.equals("00")) {
            keys.add(v);
        }
    }

    private static int firstDay(int day, int part) {
        LocalDate date = LocalDate.EPOCH.plusDays(day);
        LocalDate[] firsts = {
            date,
            date.with(TemporalAdjusters.previousOrSame(DayOfWeek.MONDAY)),
            date.with(TemporalAdjusters.firstDayOfMonth()),
            date.with(IsoFields.DAY_OF_QUARTER, 1),
            date.with(TemporalAdjusters.firstDayOfYear()),
        };
        return (int) ChronoUnit.DAYS.between(LocalDate.EPOCH, firsts[part]);
    }
}
