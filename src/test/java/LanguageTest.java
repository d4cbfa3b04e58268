import java.io.IOException;
import java.lang.reflect.Constructor;
import java.lang.reflect.Field;
import java.lang.reflect.Method;
import java.lang.reflect.Modifier;
import java.nio.file.Files;
import java.nio.file.Path;
import java.util.Arrays;
import java.util.Set;
import java.util.TreeSet;
import java.util.regex.Matcher;
import java.util.regex.Pattern;

/** Those rules of ../shared/LANGUAGE.md that can be seen from the outside or from the bare text. */
public final class LanguageTest {
    private static final Due DUE = new Due("LanguageTest");

    private LanguageTest() {
    }

    public static void main(String[] args) throws IOException {
        String source = Files.readString(Path.of("src/main/java/TruePoll.java"));
        String doc = Files.readString(Path.of("../shared/DOC.md"));
        face(doc);
        classes();
        words(bare(source));
        lengths(bare(source));
        DUE.yes("texts are not joined by +", !Pattern.compile("\"\\s*\\+|\\+\\s*\"").matcher(source).find());
        DUE.yes("signs are below 128", source.chars().allMatch(c -> c < 128));
        DUE.close();
    }

    /** The source without comments and without what stands in quotes. */
    private static String bare(String source) {
        String noComments = source.replaceAll("(?s)/\\*.*?\\*/", " ").replaceAll("//[^\n]*", " ");
        return noComments.replaceAll("\"[^\"\n]*\"", "\"\"").replaceAll("'[^'\n]'", "' '");
    }

    private static String described(Class<?> type, String name, Class<?>... parameters) {
        StringBuilder text = new StringBuilder(type.getSimpleName() + " " + name + "(");
        for (Class<?> p : parameters) {
            text.append(p.getSimpleName()).append(" ");
        }
        return text.append(")").toString();
    }

    // rule 1
    private static void face(String doc) {
        Set<String> want = new TreeSet<>();
        Matcher promised = Pattern.compile("public (int|long|boolean) (\\w+)\\((.*?)\\);").matcher(doc);
        while (promised.find()) {
            String parameters = promised.group(3).replaceAll("(\\w+) \\w+(, )?", "$1 ");
            want.add(promised.group(1) + " " + promised.group(2) + "(" + parameters + ")");
        }
        Set<String> got = new TreeSet<>();
        for (Method m : TruePoll.class.getDeclaredMethods()) {
            if (Modifier.isPublic(m.getModifiers())) {
                got.add(described(m.getReturnType(), m.getName(), m.getParameterTypes()));
            } else {
                DUE.yes(m + " is private", Modifier.isPrivate(m.getModifiers()));
            }
        }
        DUE.is("61 methods are promised", want.size(), 61);
        DUE.yes("the face is the document's: " + want + " and not " + got, want.equals(got));
        for (Field f : TruePoll.class.getDeclaredFields()) {
            boolean constant = f.getName().equals("NONE");
            DUE.yes(f + " is private", constant || Modifier.isPrivate(f.getModifiers()));
        }
        Constructor<?>[] made = TruePoll.class.getDeclaredConstructors();
        DUE.yes("one public constructor", made.length == 1 && Modifier.isPublic(made[0].getModifiers()));
        DUE.yes("final", Modifier.isFinal(TruePoll.class.getModifiers()));
        names();
    }

    private static void names() {
        Set<String> open = new TreeSet<>();
        for (Method m : TruePoll.class.getMethods()) {
            open.add(m.getName());
        }
        for (Method m : TruePoll.class.getDeclaredMethods()) {
            DUE.yes(m + " has no public name", Modifier.isPublic(m.getModifiers()) || !open.contains(m.getName()));
        }
        for (Class<?> c : TruePoll.class.getDeclaredClasses()) {
            for (Method m : c.getDeclaredMethods()) {
                DUE.yes(m + " has no public name", !open.contains(m.getName()));
            }
        }
    }

    // rules 2, 5, 11
    private static void classes() {
        Class<?>[] inside = TruePoll.class.getDeclaredClasses();
        DUE.yes("twelve classes at most", inside.length + 1 <= 12);
        Class<?>[] all = Arrays.copyOf(inside, inside.length + 1);
        all[inside.length] = TruePoll.class;
        for (Class<?> c : all) {
            boolean face = c == TruePoll.class;
            DUE.yes(c + " is static", face || Modifier.isStatic(c.getModifiers()));
            DUE.yes(c + " is not open", face || !Modifier.isPublic(c.getModifiers()));
            int own = 0;
            for (Field f : c.getDeclaredFields()) {
                boolean shared = Modifier.isStatic(f.getModifiers());
                own += shared ? 0 : 1;
                DUE.yes(f + " is final", !shared || Modifier.isFinal(f.getModifiers()));
                DUE.yes(f + " is a plain constant", !shared || f.getType().isPrimitive() || f.getType() == String.class);
            }
            DUE.yes(c + " has twenty fields at most: " + own, own <= 20);
            for (Method m : c.getDeclaredMethods()) {
                DUE.yes(m + " takes seven at most", m.getParameterCount() <= 7);
            }
        }
    }

    // rules 4, 6, 13
    private static void words(String bare) {
        String[] never = {"throw", "throws", "try", "catch", "synchronized", "assert", "package", "protected", "native",
            "instanceof", "equals", "hashCode", "toString", "Random", "nanoTime", "currentTimeMillis", "Thread", "File",
            "addExact", "multiplyExact", "toIntExact", "Object", "var", "double", "float"};
        for (String word : never) {
            DUE.yes("no " + word, !Pattern.compile("\\b" + word + "\\b").matcher(bare).find());
        }
        DUE.yes("no lambda", !bare.contains("->"));
        DUE.yes("no method reference", !bare.contains("::"));
        DUE.yes("no annotation", !bare.contains("@"));
        DUE.yes("no static block", !Pattern.compile("static\\s*\\{").matcher(bare).find());
        Matcher imports = Pattern.compile("import ([^;]*);").matcher(bare);
        while (imports.find()) {
            DUE.yes("import " + imports.group(1), imports.group(1).equals("java.util.Arrays"));
        }
        Matcher library = Pattern.compile("\\b(System|Arrays|Math|Integer|Long)\\.(\\w+)").matcher(bare);
        Set<String> known = Set.of("System.arraycopy", "Arrays.copyOf", "Arrays.fill", "Math.max", "Math.min", "Math.abs",
            "Integer.bitCount");
        while (library.find()) {
            DUE.yes(library.group() + " is allowed", known.contains(library.group()));
        }
    }

    // rule 11
    private static void lengths(String bare) {
        String[] lines = bare.split("\n", -1);
        int methods = 0;
        for (int i = 0; i < lines.length; i++) {
            boolean head = lines[i].matches("( {4}| {8})(public |private |static |final )*[\\w\\[\\]]+ ?\\w*\\(.*\\{\\s*");
            if (head) {
                String closing = lines[i].replaceAll("^( *).*", "$1}");
                int to = i;
                while (to < lines.length && !lines[to].stripTrailing().equals(closing)) {
                    to++;
                }
                methods++;
                DUE.yes("sixty lines at most: " + lines[i].trim(), to - i < 60);
            }
        }
        DUE.yes("the methods were seen: " + methods, methods > 150);
    }
}
