import java.io.IOException;
import java.lang.reflect.Constructor;
import java.lang.reflect.Field;
import java.lang.reflect.Method;
import java.lang.reflect.Modifier;
import java.nio.file.Files;
import java.nio.file.Path;
import java.util.Arrays;
import java.util.HashMap;
import java.util.Map;
import java.util.Set;
import java.util.TreeMap;
import java.util.TreeSet;
import java.util.regex.Matcher;
import java.util.regex.Pattern;

/** Those rules of ../shared/LANGUAGE.md that can be seen from the outside or from the bare text. */
public final class LanguageTest {
    private static final Due DUE = new Due("LanguageTest");
    /** Where a method begins, its name being the second group, or a constructor, which has none. */
    private static final Pattern HEAD =
        Pattern.compile("( {4}| {8})(?:public |private |static |final )*[\\w\\[\\]]+(?: (\\w+))?\\(.*\\{\\s*");
    /** The grammar's own recursion, which carries its depth along. */
    private static final Set<String> READING = Set.of("readSum", "readProduct", "readOne", "readIf", "readEither",
        "readBoth", "readAsk", "readComparison");
    private static final int DEEPEST = 8;

    private LanguageTest() {
    }

    public static void main(String[] args) throws IOException {
        String source = Files.readString(Path.of("src/main/java/TruePoll.java"));
        String doc = Files.readString(Path.of("../shared/DOC.md"));
        face(doc);
        classes();
        words(bare(source));
        Map<String, String> bodies = bodies(bare(source));
        areAllSeen(bodies);
        depths(bodies);
        DUE.yes("texts are not joined by +", !Pattern.compile("\"\\s*\\+|\\+\\s*\"").matcher(source).find());
        DUE.yes("signs are below 128", source.chars().allMatch(c -> c < 128));
        DUE.close();
    }

    /** The source without comments and without what stands in quotes. */
    private static String bare(String source) {
        String noComments = source.replaceAll("(?s)/\\*.*?\\*/", " ").replaceAll("//[^\n]*", " ");
        return noComments.replaceAll("\"[^\"\n]*\"", "\"\"").replaceAll("'[^'\n]'", "' '");
    }

    private static String described(Class<?> type, String name, Class<?>... parameters) {
        StringBuilder text = new StringBuilder(type.getSimpleName() + " " + name + "(");
        for (Class<?> p : parameters) {
            text.append(p.getSimpleName()).append(" ");
        }
        return text.append(")").toString();
    }

    // rule 1
    private static void face(String doc) {
        Set<String> want = new TreeSet<>();
        Matcher promised = Pattern.compile("public (int|long|boolean) (\\w+)\\((.*?)\\);").matcher(doc);
        while (promised.find()) {
            String parameters = promised.group(3).replaceAll("(\\w+) \\w+(, )?", "$1 ");
            want.add(promised.group(1) + " " + promised.group(2) + "(" + parameters + ")");
        }
        Set<String> got = new TreeSet<>();
        for (Method m : TruePoll.class.getDeclaredMethods()) {
            if (Modifier.isPublic(m.getModifiers())) {
                got.add(described(m.getReturnType(), m.getName(), m.getParameterTypes()));
            } else {
                DUE.yes(m + " is private", Modifier.isPrivate(m.getModifiers()));
            }
        }
        DUE.is("61 methods are promised", want.size(), 61);
        DUE.yes("the face is the document's: " + want + " and not " + got, want.equals(got));
        for (Field f : TruePoll.class.getDeclaredFields()) {
            boolean constant = f.getName().equals("NONE");
            DUE.yes(f + " is private", constant || Modifier.isPrivate(f.getModifiers()));
        }
        Constructor<?>[] made = TruePoll.class.getDeclaredConstructors();
        DUE.yes("one public constructor", made.length == 1 && Modifier.isPublic(made[0].getModifiers()));
        DUE.yes("final", Modifier.isFinal(TruePoll.class.getModifiers()));
        names();
    }

    private static void names() {
        Set<String> open = new TreeSet<>();
        for (Method m : TruePoll.class.getMethods()) {
            open.add(m.getName());
        }
        for (Method m : TruePoll.class.getDeclaredMethods()) {
            DUE.yes(m + " has no public name", Modifier.isPublic(m.getModifiers()) || !open.contains(m.getName()));
        }
        for (Class<?> c : TruePoll.class.getDeclaredClasses()) {
            for (Method m : c.getDeclaredMethods()) {
                DUE.yes(m + " has no public name", !open.contains(m.getName()));
            }
        }
    }

    // rules 2, 5, 11
    private static void classes() {
        Class<?>[] inside = TruePoll.class.getDeclaredClasses();
        DUE.yes("twelve classes at most", inside.length + 1 <= 12);
        Class<?>[] all = Arrays.copyOf(inside, inside.length + 1);
        all[inside.length] = TruePoll.class;
        for (Class<?> c : all) {
            boolean face = c == TruePoll.class;
            DUE.yes(c + " is static", face || Modifier.isStatic(c.getModifiers()));
            DUE.yes(c + " is not open", face || !Modifier.isPublic(c.getModifiers()));
            int own = 0;
            for (Field f : c.getDeclaredFields()) {
                boolean shared = Modifier.isStatic(f.getModifiers());
                own += shared ? 0 : 1;
                DUE.yes(f + " is final", !shared || Modifier.isFinal(f.getModifiers()));
                DUE.yes(f + " is a plain constant", !shared || f.getType().isPrimitive() || f.getType() == String.class);
            }
            DUE.yes(c + " has twenty fields at most: " + own, own <= 20);
            for (Method m : c.getDeclaredMethods()) {
                DUE.yes(m + " takes seven at most", m.getParameterCount() <= 7);
            }
        }
    }

    // rules 4, 6, 13
    private static void words(String bare) {
        String[] never = {"throw", "throws", "try", "catch", "synchronized", "assert", "package", "protected", "native",
            "instanceof", "equals", "hashCode", "toString", "Random", "nanoTime", "currentTimeMillis", "Thread", "File",
            "addExact", "multiplyExact", "toIntExact", "Object", "var", "double", "float"};
        for (String word : never) {
            DUE.yes("no " + word, !Pattern.compile("\\b" + word + "\\b").matcher(bare).find());
        }
        DUE.yes("no lambda", !bare.contains("->"));
        DUE.yes("no method reference", !bare.contains("::"));
        DUE.yes("no annotation", !bare.contains("@"));
        DUE.yes("no static block", !Pattern.compile("static\\s*\\{").matcher(bare).find());
        Matcher imports = Pattern.compile("import ([^;]*);").matcher(bare);
        while (imports.find()) {
            DUE.yes("import " + imports.group(1), imports.group(1).equals("java.util.Arrays"));
        }
        Matcher library = Pattern.compile("\\b(System|Arrays|Math|Integer|Long)\\.(\\w+)").matcher(bare);
        Set<String> known = Set.of("System.arraycopy", "Arrays.copyOf", "Arrays.fill", "Math.max", "Math.min", "Math.abs",
            "Integer.bitCount");
        while (library.find()) {
            DUE.yes(library.group() + " is allowed", known.contains(library.group()));
        }
    }

    // rule 11
    /** Of each method's name: its text. Methods of one name in two classes count as one, which only makes chains longer. */
    private static Map<String, String> bodies(String bare) {
        String[] lines = bare.split("\n", -1);
        Map<String, String> bodies = new TreeMap<>();
        for (int i = 0; i < lines.length; i++) {
            Matcher head = HEAD.matcher(lines[i]);
            if (head.matches()) {
                StringBuilder body = new StringBuilder();
                int to = i;
                while (to < lines.length && !lines[to].stripTrailing().equals(head.group(1) + "}")) {
                    body.append(to == i ? "" : lines[to]).append('\n');
                    to++;
                }
                DUE.yes("sixty lines at most: " + lines[i].trim(), to - i < 60);
                bodies.merge(head.group(2) == null ? "(constructors)" : head.group(2), body.toString(), String::concat);
            }
        }
        return bodies;
    }

    private static void areAllSeen(Map<String, String> bodies) {
        for (Class<?> c : TruePoll.class.getNestMembers()) {
            for (Method m : c.getDeclaredMethods()) {
                DUE.yes("the text of " + m + " was seen", bodies.containsKey(m.getName()));
            }
        }
    }

    // rules 8, 11
    private static void depths(Map<String, String> bodies) {
        Map<String, Set<String>> calls = new TreeMap<>();
        for (String name : bodies.keySet()) {
            Set<String> called = new TreeSet<>();
            Matcher call = Pattern.compile("(?<!new )\\b(\\w+)\\(").matcher(bodies.get(name));
            while (call.find()) {
                if (bodies.containsKey(call.group(1))) {
                    called.add(call.group(1));
                }
            }
            calls.put(name, called);
        }
        Set<String> again = new TreeSet<>();
        for (String name : calls.keySet()) {
            if (reached(calls, name).contains(name)) {
                again.add(name);
            }
        }
        DUE.same("only the grammar is read by recursion", again.toString(), new TreeSet<>(READING).toString());
        Map<String, Integer> known = new HashMap<>();
        for (String name : calls.keySet()) {
            int deep = again.contains(name) ? 0 : depth(calls, again, name, known);
            DUE.yes(name + " is " + DEEPEST + " calls deep at most: " + deep, deep <= DEEPEST);
        }
    }

    private static Set<String> reached(Map<String, Set<String>> calls, String from) {
        Set<String> reached = new TreeSet<>(calls.get(from));
        int before = 0;
        while (before < reached.size()) {
            before = reached.size();
            for (String name : new TreeSet<>(reached)) {
                reached.addAll(calls.get(name));
            }
        }
        return reached;
    }

    /** How many calls stand open at most from a method on, it too, all of a recursion counting as one. */
    private static int depth(Map<String, Set<String>> calls, Set<String> again, String name, Map<String, Integer> known) {
        if (!known.containsKey(name)) {
            int below = 0;
            for (String next : again.contains(name) ? reached(calls, name) : calls.get(name)) {
                boolean same = again.contains(name) && again.contains(next);
                below = Math.max(below, same ? 0 : depth(calls, again, next, known));
            }
            known.put(name, below + 1);
        }
        return known.get(name);
    }
}
