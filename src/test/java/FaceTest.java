import java.lang.reflect.Constructor;
import java.lang.reflect.Field;
import java.lang.reflect.Method;
import java.lang.reflect.Modifier;
import java.util.Arrays;
import java.util.Set;
import java.util.TreeSet;

/** That the class has the document's face and no other member that can be seen from outside. */
public final class FaceTest {
    private static final String[] FACE = {
        "public static final int NONE", "public static final int OUTSIDE", "public static final int STATE",
        "public static final int ROOM", "public FacetFigures()", "public int object()",
        "public int value(int, int, int)", "public int match(int, boolean)", "public int clear()",
        "public int facet(int, int, int, int)", "public int range(int, int, int)",
        "public int filter(int, int, int, int)", "public int least(int, int)", "public int missing(int, boolean)",
        "public int order(int, int, int)", "public int groups(int)", "public int group(int, int, int)",
        "public int find(int, int)", "public int in(int, int, int)", "public int enter(int, int)",
        "public int leave()", "public int hand()", "public long figure(int, int, int, int)",
        "public int place(int, int, int, int)", "public int told(int)",
    };

    public static void main(String[] args) {
        Check c = new Check();
        Set<String> due = new TreeSet<>(Arrays.asList(FACE));
        Set<String> seen = seenFromOutside();
        for (String member : due) {
            c.due("has " + member, seen.contains(member) ? 1 : 0, 1);
        }
        for (String member : seen) {
            c.due("may have " + member, due.contains(member) ? 1 : 0, 1);
        }
        c.due("public final", FacetFigures.class.getModifiers() & (Modifier.PUBLIC | Modifier.FINAL),
            Modifier.PUBLIC | Modifier.FINAL);
        for (Class<?> inside : FacetFigures.class.getDeclaredClasses()) {
            c.due(inside + " is static", Modifier.isStatic(inside.getModifiers()) ? 1 : 0, 1);
            c.due(inside + " is not public", Modifier.isPublic(inside.getModifiers()) ? 1 : 0, 0);
        }
        for (Method one : FacetFigures.class.getDeclaredMethods()) {
            boolean hidden = Modifier.isPrivate(one.getModifiers());
            boolean bearsPublicName = due.toString().contains(" " + one.getName() + "(");
            c.due(one + " bears no public name", hidden && bearsPublicName ? 1 : 0, 0);
        }
        c.end();
    }

    private static Set<String> seenFromOutside() {
        Set<String> seen = new TreeSet<>();
        for (Field one : FacetFigures.class.getDeclaredFields()) {
            note(seen, one.getModifiers(), one.toGenericString());
        }
        for (Constructor<?> one : FacetFigures.class.getDeclaredConstructors()) {
            note(seen, one.getModifiers(), one.toGenericString());
        }
        for (Method one : FacetFigures.class.getDeclaredMethods()) {
            note(seen, one.getModifiers(), one.toGenericString());
        }
        return seen;
    }

    private static void note(Set<String> seen, int modifiers, String member) {
        if (!Modifier.isPrivate(modifiers)) {
            seen.add(member.replace("FacetFigures.", "").replace(",", ", ").replace(",  ", ", "));
        }
    }
}
