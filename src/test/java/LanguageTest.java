import java.lang.reflect.Array;
import java.lang.reflect.Constructor;
import java.lang.reflect.Field;
import java.lang.reflect.Method;
import java.lang.reflect.Modifier;
import java.nio.file.Files;
import java.nio.file.Path;
import java.util.ArrayList;
import java.util.Collections;
import java.util.IdentityHashMap;
import java.util.List;
import java.util.Map;
import java.util.Set;
import java.util.TreeMap;
import java.util.TreeSet;
import java.util.regex.Matcher;
import java.util.regex.Pattern;

/** What of LANGUAGE.md can be looked up: the face, words that are ruled out, how deep calls go, the room that an object takes. */
final class LanguageTest {
    private static final Path SOURCE = Path.of("src/main/java/StatueVotes.java");
    private static final String[] FACE = {
        "feed 1", "capital 0", "fault 0", "told 1", "plinth 2", "statue 2", "walker 2", "year 1", "stand 2", "down 1",
        "scrub 1", "walk 2", "like 2", "drift 1", "undo 0", "standing 2", "goesDown 1", "change 2", "power 3",
        "mostHave 2", "places 1", "swaps 1", "close 2", "count 2", "likings 1", "ladder 0", "write 2", "tear 0",
        "judge 0", "seed 1", "keep 1", "goBack 1"
    };
    private static final String[] RULED_OUT = {
        "\\bthrow\\b", "\\bthrows\\b", "\\btry\\b", "\\bcatch\\b", "\\bsynchronized\\b", "\\bassert\\b", "->", "::",
        "^package\\b", "\\bMath\\.\\w+Exact\\b", "\\bequals\\b", "\\bhashCode\\b", "\\btoString\\b", "\\bstatic\\s*\\{"
    };
    private static final int MOST_OBJECTS = 300;
    private static final int MOST_CELLS = 4000;
    private static int wrong = 0;

    private static void due(String what, Object got, Object want) {
        if (!got.equals(want)) {
            wrong++;
            System.out.println(what + " is " + got + ", due is " + want);
        }
    }

    public static void main(String[] args) throws Exception {
        face();
        names();
        source();
        room();
        System.out.println("the language: " + wrong + " wrong");
        if (wrong != 0) System.exit(1);
    }

    private static void face() {
        Set<String> want = new TreeSet<>(List.of(FACE));
        Set<String> got = new TreeSet<>();
        for (Method m : StatueVotes.class.getDeclaredMethods()) {
            if (m.isSynthetic() || Modifier.isPrivate(m.getModifiers())) continue;
            boolean isPlain = m.getReturnType() == int.class && Modifier.isPublic(m.getModifiers()) && !Modifier.isStatic(m.getModifiers());
            for (Class<?> c : m.getParameterTypes()) isPlain &= c == int.class;
            got.add((isPlain ? "" : "not as told: ") + m.getName() + " " + m.getParameterCount());
        }
        due("the face", got, want);
        due("the class", StatueVotes.class.getModifiers(), Modifier.PUBLIC | Modifier.FINAL);
        Set<String> fields = new TreeSet<>();
        for (Field f : StatueVotes.class.getDeclaredFields()) {
            if (!Modifier.isPrivate(f.getModifiers())) fields.add(f.getName());
            if (Modifier.isStatic(f.getModifiers()) && !Modifier.isFinal(f.getModifiers())) due(f.getName(), "static", "final");
        }
        due("the constants", fields, new TreeSet<>(List.of("NONE", "UNKNOWN", "OUTSIDE", "NOT", "FULL")));
        Constructor<?>[] made = StatueVotes.class.getDeclaredConstructors();
        due("constructors", made.length, 1);
        due("its parameters", made[0].getParameterCount(), 0);
    }

    private static void names() {
        Set<String> face = new TreeSet<>();
        for (String f : FACE) face.add(f.substring(0, f.indexOf(' ')));
        List<Class<?>> all = new ArrayList<>(List.of(StatueVotes.class.getDeclaredClasses()));
        due("classes, at most 12", all.size() <= 12, true);
        for (Class<?> c : all) {
            due(c.getName() + " is static", Modifier.isStatic(c.getModifiers()), true);
            for (Method m : c.getDeclaredMethods()) due(c.getName() + " has " + m.getName(), face.contains(m.getName()), false);
            int fields = 0;
            for (Field f : c.getDeclaredFields()) if (!Modifier.isStatic(f.getModifiers())) fields++;
            due(c.getName() + ": fields, at most 20", fields <= 20, true);
        }
        for (Method m : StatueVotes.class.getDeclaredMethods()) {
            if (Modifier.isPrivate(m.getModifiers())) due("private " + m.getName(), face.contains(m.getName()), false);
        }
    }

    private static void source() throws Exception {
        String text = Files.readString(SOURCE);
        String code = text.replaceAll("(?s)/\\*.*?\\*/", " ").replaceAll("//[^\n]*", " ");
        for (String rule : RULED_OUT) {
            Matcher m = Pattern.compile(rule, Pattern.MULTILINE).matcher(code);
            if (m.find()) due("in the code", m.group(), "nothing of the kind");
        }
        for (int i = 0; i < text.length(); i++) {
            if (text.charAt(i) > 127) due("letter " + i, (int) text.charAt(i), "127 or less");
        }
        library(code);
        Map<String, List<String>> methods = methods(code);
        due("methods, as many as the class has", methods.keySet().containsAll(declared()), true);
        shape(methods);
        depth(methods);
    }

    /** Own classes and constants aside, only these words begin with a capital letter; nothing is imported. */
    private static void library(String code) {
        Set<String> known = new TreeSet<>(List.of("StatueVotes", "Integer.bitCount", "Math.max", "Math.min", "System.arraycopy"));
        for (Class<?> c : StatueVotes.class.getDeclaredClasses()) known.add(c.getSimpleName());
        Matcher m = Pattern.compile("\\b[A-Z]\\w*[a-z]\\w*(\\.\\w+)?").matcher(code);
        while (m.find()) due("known: " + m.group(), known.contains(m.group()), true);
        due("imports", Pattern.compile("\\bimport\\b").matcher(code).find(), false);
    }

    private static Set<String> declared() {
        Set<String> names = new TreeSet<>();
        List<Class<?>> all = new ArrayList<>(List.of(StatueVotes.class.getDeclaredClasses()));
        all.add(StatueVotes.class);
        for (Class<?> c : all) for (Method m : c.getDeclaredMethods()) if (!m.isSynthetic()) names.add(m.getName());
        return names;
    }

    /** Heads and bodies of all methods by their names; of the same name in several classes, all of them. */
    private static Map<String, List<String>> methods(String code) {
        Map<String, List<String>> all = new TreeMap<>();
        Matcher head = Pattern.compile("^(?: {4}| {8})(?:[\\w\\[\\]]+ )+(\\w+)\\([^()]*\\) \\{", Pattern.MULTILINE).matcher(code);
        while (head.find()) {
            int open = 1;
            int at = head.end();
            for (; at < code.length() && open > 0; at++) {
                if (code.charAt(at) == '{') open++;
                if (code.charAt(at) == '}') open--;
            }
            all.computeIfAbsent(head.group(1), n -> new ArrayList<>()).add(code.substring(head.start(), at));
        }
        return all;
    }

    private static void shape(Map<String, List<String>> methods) {
        Set<String> made = new TreeSet<>(Set.of("StatueVotes"));
        for (Class<?> c : StatueVotes.class.getDeclaredClasses()) made.add(c.getSimpleName());
        methods.forEach((name, all) -> {
            for (String method : all) {
                String parameters = method.substring(method.indexOf('('), method.indexOf(')'));
                due(name + ": lines, at most 60", method.split("\n").length <= 60, true);
                due(name + ": parameters, at most 7", parameters.split(",").length <= 7, true);
                boolean makes = Pattern.compile("\\bnew\\b|\\bclone\\b").matcher(method).find();
                due(name + " makes something", makes && !made.contains(name), false);
            }
        });
    }

    /** By the names that bodies call: none comes back to itself, and no chain is longer than eight. */
    private static void depth(Map<String, List<String>> methods) {
        for (String f : FACE) {
            String name = f.substring(0, f.indexOf(' '));
            List<String> longest = chain(name, methods, new ArrayList<>());
            due(longest + ": at most eight deep", longest.size() <= 8, true);
        }
    }

    private static List<String> chain(String name, Map<String, List<String>> methods, List<String> ahead) {
        List<String> here = new ArrayList<>(ahead);
        here.add(name);
        if (ahead.contains(name)) {
            due("a call of itself: " + here, true, false);
            return here;
        }
        List<String> longest = here;
        for (String method : methods.getOrDefault(name, List.of())) {
            Matcher call = Pattern.compile("\\b(\\w+)\\(").matcher(method.substring(method.indexOf('{')));
            while (call.find()) {
                if (!methods.containsKey(call.group(1))) continue;
                List<String> further = chain(call.group(1), methods, here);
                if (further.size() > longest.size()) longest = further;
            }
        }
        return longest;
    }

    /** All that an object holds is made with it, so it does not grow by calls. */
    private static void room() throws Exception {
        StatueVotes x = new StatueVotes();
        int[] first = sizeOf(x);
        due("objects " + first[0], first[0] <= MOST_OBJECTS, true);
        due("cells " + first[1], first[1] <= MOST_CELLS, true);
        String text = "t4;p50;p10;p80;s0 0 40;s2 1 60;s3 9 5;s1 9 70;w1 3 1;w3 2 6;w7 1 9;w4 5 12;";
        for (int i = 0; i < text.length(); i++) x.feed(text.charAt(i));
        x.capital();
        for (int i = 0; i < 40; i++) {
            x.drift(3);
            x.count(0, 3);
            x.write(0, 0);
            x.places(0);
            x.ladder();
            x.goesDown(0);
        }
        x.keep(0);
        due("objects, later", sizeOf(x)[0], first[0]);
        due("cells, later", sizeOf(x)[1], first[1]);
    }

    private static int[] sizeOf(Object root) throws Exception {
        Set<Object> seen = Collections.newSetFromMap(new IdentityHashMap<>());
        List<Object> open = new ArrayList<>(List.of(root));
        int cells = 0;
        seen.add(root);
        for (int i = 0; i < open.size(); i++) {
            Object o = open.get(i);
            List<Object> parts = new ArrayList<>();
            if (o.getClass().isArray()) {
                cells += Array.getLength(o);
                if (!o.getClass().getComponentType().isPrimitive()) parts.addAll(List.of((Object[]) o));
            } else {
                for (Field f : o.getClass().getDeclaredFields()) {
                    if (Modifier.isStatic(f.getModifiers())) continue;
                    cells++;
                    f.setAccessible(true);
                    if (!f.getType().isPrimitive()) parts.add(f.get(o));
                }
            }
            for (Object part : parts) if (seen.add(part)) open.add(part);
        }
        return new int[] {seen.size(), cells};
    }
}
