import java.time.DayOfWeek;
import java.time.LocalDate;
import java.time.temporal.TemporalAdjusters;

/** The calendar's keys (promises 6, 12, 13) of every day from the first to the last, against the Java library's. */
public final class CalendarTest {
    private static final int LAST = 1000000;
    private static final Check c = new Check();

    public static void main(String[] args) {
        edges();
        allDays();
        c.end();
    }

    private static void edges() {
        FacetFigures x = new FacetFigures();
        Scene.matching(x, 0, -1000001);
        Scene.matching(x, 0, 1000001, 1000000000);
        Scene.matching(x, 0, -1000000000);
        for (int a = 0; a <= 4; a++) {
            x.facet(Scene.CALENDAR, 0, a, 0);
            x.missing(a, true);
            Scene.dueList(c, "no days", x, a, "missing:3");
        }
        x.match(2, false);
        x.value(0, 0, -1);
        x.value(1, 0, 0);
        String[] want = {"-1:1 0:1", "-3:2", "-31:1 0:1", "-92:1 0:1", "-365:1 0:1"};
        for (int a = 0; a <= 4; a++) {
            Scene.dueList(c, "both sides of day 0", x, a, want[a]);
        }
    }

    private static void allDays() {
        int day = -LAST;
        while (day <= LAST) {
            FacetFigures x = new FacetFigures();
            for (int a = 0; a <= 4; a++) {
                x.facet(Scene.CALENDAR, 0, a, 0);
                x.order(a, 1, 0);
            }
            // Three days an object with as many objects as 512 calls allow for, all told before one is asked.
            int first = day;
            int objects = 0;
            for (; objects < 12 && day <= LAST; objects++) {
                x.object();
                x.match(objects, true);
                for (int k = 0; k < 3 && day <= LAST; k++) {
                    x.value(objects, 0, day);
                    day++;
                }
            }
            for (int a = 0; a <= 4; a++) {
                compare(x, a, first, day - 1);
            }
        }
    }

    private static void compare(FacetFigures x, int part, int first, int last) {
        int group = -1;
        int key = 0;
        for (int day = first; day <= last; day++) {
            int want = firstDay(day, part);
            if (group == -1 || want != key) {
                group++;
                key = want;
                due("key", part, day, x.group(part, group, 0), want);
            }
            due("in", part, day, x.in(part, group, (day - first) / 3), 1);
        }
        due("groups", part, last, x.groups(part), group + 1);
    }

    /** Millions of answers: the text is made for the wrong ones alone. */
    private static void due(String what, int part, int day, int got, int want) {
        c.due(got == want ? what : what + ", part " + part + ", day " + day, got, want);
    }

    private static int firstDay(int day, int part) {
        LocalDate date = LocalDate.ofEpochDay(day);
        LocalDate first;
        switch (part) {
            case 0:
                first = date;
                break;
            case 1:
                first = date.with(TemporalAdjusters.previousOrSame(DayOfWeek.MONDAY));
                break;
            case 2:
                first = date.withDayOfMonth(1);
                break;
            case 3:
                first = LocalDate.of(date.getYear(), (date.getMonthValue() - 1) / 3 * 3 + 1, 1);
                break;
            default:
                first = date.withDayOfYear(1);
                break;
        }
        return (int) first.toEpochDay();
    }
}
