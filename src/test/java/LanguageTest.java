import java.io.IOException;
import java.lang.reflect.Array;
import java.lang.reflect.Field;
import java.lang.reflect.Modifier;
import java.nio.file.Files;
import java.nio.file.Path;
import java.util.ArrayList;
import java.util.Arrays;
import java.util.IdentityHashMap;
import java.util.List;
import java.util.Map;
import java.util.Set;
import java.util.TreeMap;
import java.util.TreeSet;
import java.util.regex.Matcher;
import java.util.regex.Pattern;

/** The rules of LANGUAGE.md that can be seen from the program's text, from its classes, and from what it holds. */
public final class LanguageTest {
    private static final Path PROGRAM = Path.of("src", "main", "java", "FacetFigures.java");
    private static final Pattern METHOD = Pattern.compile(
        "( {4}| {8})((?:public |private |static |final )*)(?:([\\w\\[\\]]+) )?(\\w+)\\(([^()]*)\\) \\{");
    private static final Pattern CALLED = Pattern.compile("\\b(\\w+)\\(");
    private static final Pattern LIBRARY = Pattern.compile("\\b(?:Math|System|Integer|Long|Arrays|String)\\.\\w+");
    private static final Set<String> ALLOWED = new TreeSet<>(Arrays.asList(
        "Math.min", "Math.max", "Math.abs", "Math.floorMod", "Math.floorDiv", "System.arraycopy"));
    private static final Pattern FORBIDDEN = Pattern.compile(
        "\\b(?:import|package|throws?|try|catch|finally|synchronized|assert|protected|native|volatile|transient"
            + "|equals|hashCode|toString|Object|var|double|float)\\b|->|::|\"");
    private static final Set<Class<?>> STATIC_TYPES = Set.of(
        int.class, long.class, boolean.class, char.class, String.class, int[].class, long[].class, char[].class,
        byte[].class);
    private static final int MOST_LINES = 60;
    private static final int MOST_PARAMETERS = 7;
    private static final int MOST_CLASSES = 12;
    private static final int MOST_FIELDS = 20;
    private static final int DEEPEST_CALLS = 8;
    /** Some 600,000 objects and 7.3 million fields and elements are there for all objects of a run together. */
    private static final int MOST_MADE = 100;
    private static final int MOST_HELD = 12000;

    /** A method or constructor as it is written. */
    private static final class Part {
        String name;
        boolean isPublic;
        boolean isPrivate;
        boolean isConstructor;
        int parameters;
        final List<String> lines = new ArrayList<>();
    }

    private static final Check c = new Check();

    public static void main(String[] args) throws Exception {
        List<String> text = withoutComments();
        List<Part> parts = parts(text);
        c.due("methods and constructors are found", parts.size() > 60 ? 1 : 0, 1);
        words(text);
        methods(parts);
        depth(parts);
        classes();
        room();
        c.end();
    }

    private static void isTrue(String what, boolean is) {
        c.due(what, is ? 1 : 0, 1);
    }

    private static List<String> withoutComments() throws IOException {
        String text = Files.readString(PROGRAM).replaceAll("(?s)/\\*.*?\\*/", "").replaceAll("//[^\n]*", "");
        return Arrays.asList(text.split("\n"));
    }

    private static List<Part> parts(List<String> text) {
        List<Part> parts = new ArrayList<>();
        for (int k = 0; k < text.size(); k++) {
            Matcher head = METHOD.matcher(text.get(k));
            if (head.matches() && !head.group(4).matches("if|for|while|switch")) {
                Part part = new Part();
                part.name = head.group(4);
                part.isPublic = head.group(2).contains("public ");
                part.isPrivate = head.group(2).contains("private ");
                part.isConstructor = head.group(3) == null;
                part.parameters = head.group(5).isEmpty() ? 0 : head.group(5).split(",").length;
                for (int at = k; at < text.size() && !text.get(at).equals(head.group(1) + "}"); at++) {
                    part.lines.add(text.get(at));
                }
                parts.add(part);
            }
        }
        return parts;
    }

    private static void words(List<String> text) {
        for (String line : text) {
            isTrue("rules 3, 4 and 6: " + line, !FORBIDDEN.matcher(line).find());
            Matcher used = LIBRARY.matcher(line);
            while (used.find()) {
                isTrue("rule 4: " + used.group(), ALLOWED.contains(used.group()));
            }
        }
    }

    private static void methods(List<Part> parts) {
        Set<String> publicNames = new TreeSet<>();
        for (Part part : parts) {
            if (part.isPublic) {
                publicNames.add(part.name);
            }
        }
        for (Part part : parts) {
            boolean bearsPublicName = part.isPrivate && !part.isConstructor && publicNames.contains(part.name);
            isTrue("rule 1: private " + part.name + " bears no public name", !bearsPublicName);
            isTrue("rule 11: parameters of " + part.name, part.parameters <= MOST_PARAMETERS);
            isTrue("rule 11: lines of " + part.name, part.lines.size() <= MOST_LINES);
            for (String line : part.lines) {
                isTrue("rule 12: made by a constructor alone: " + line, part.isConstructor || !line.contains("new "));
            }
        }
    }

    /** Methods of one name are taken as one, so that the depth found is never below the one there is. */
    private static void depth(List<Part> parts) {
        Map<String, Set<String>> calls = new TreeMap<>();
        for (Part part : parts) {
            calls.putIfAbsent(part.name, new TreeSet<>());
        }
        for (Part part : parts) {
            for (String line : part.lines.subList(1, part.lines.size())) {
                Matcher called = CALLED.matcher(line);
                while (called.find()) {
                    if (calls.containsKey(called.group(1))) {
                        calls.get(part.name).add(called.group(1));
                    }
                }
            }
        }
        for (String name : calls.keySet()) {
            int deep = depth(calls, name, 1);
            isTrue("rule 11: calls from " + name + " go " + deep + " deep", deep <= DEEPEST_CALLS);
        }
    }

    private static int depth(Map<String, Set<String>> calls, String name, int so) {
        int deepest = so;
        for (String next : calls.get(name)) {
            // One level beyond what is allowed tells enough, and ends the search where methods call one another.
            deepest = Math.max(deepest, so > DEEPEST_CALLS ? so : depth(calls, next, so + 1));
        }
        return deepest;
    }

    private static void classes() {
        List<Class<?>> all = new ArrayList<>(Arrays.asList(FacetFigures.class.getDeclaredClasses()));
        isTrue("rule 2: classes inside are found", !all.isEmpty());
        for (Class<?> inside : all) {
            isTrue("rule 2: " + inside + " is static", Modifier.isStatic(inside.getModifiers()));
        }
        all.add(FacetFigures.class);
        isTrue("rule 11: classes", all.size() <= MOST_CLASSES);
        for (Class<?> one : all) {
            int fields = 0;
            for (Field field : one.getDeclaredFields()) {
                if (Modifier.isStatic(field.getModifiers())) {
                    isTrue("rule 5: final " + field, Modifier.isFinal(field.getModifiers()));
                    isTrue("rule 5: type of " + field, STATIC_TYPES.contains(field.getType()));
                } else {
                    fields++;
                }
            }
            isTrue("rule 11: fields of " + one, fields <= MOST_FIELDS);
        }
    }

    private static void room() throws IllegalAccessException {
        for (int seed = 1; seed <= 5; seed++) {
            FacetFigures x = new FacetFigures();
            int[] first = held(x);
            isTrue("rule 12: objects and arrays made: " + first[0], first[0] <= MOST_MADE);
            isTrue("rule 12: fields and elements held: " + first[1], first[1] <= MOST_HELD);
            Calls calls = new Calls(seed, x, null);
            for (int k = 0; k < 250; k++) {
                calls.next();
            }
            isTrue("rule 12: calls hold nothing more", Arrays.equals(first, held(x)));
        }
    }

    /** How many objects and arrays, and how many fields and elements, can be reached from an object. */
    private static int[] held(Object root) throws IllegalAccessException {
        int[] many = new int[2];
        hold(root, new IdentityHashMap<>(), many);
        return many;
    }

    private static void hold(Object one, Map<Object, Boolean> seen, int[] many) throws IllegalAccessException {
        if (one == null || seen.put(one, true) != null) {
            return;
        }
        many[0]++;
        if (one.getClass().isArray()) {
            many[1] += Array.getLength(one);
            for (int k = 0; one instanceof Object[] && k < Array.getLength(one); k++) {
                hold(Array.get(one, k), seen, many);
            }
            return;
        }
        for (Field field : one.getClass().getDeclaredFields()) {
            if (!Modifier.isStatic(field.getModifiers())) {
                many[1]++;
                field.setAccessible(true);
                if (!field.getType().isPrimitive()) {
                    hold(field.get(one), seen, many);
                }
            }
        }
    }
}
