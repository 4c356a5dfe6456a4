import java.io.IOException;
import java.lang.reflect.Field;
import java.lang.reflect.Method;
import java.lang.reflect.Modifier;
import java.nio.charset.StandardCharsets;
import java.nio.file.Files;
import java.nio.file.Path;
import java.util.Arrays;
import java.util.HashSet;
import java.util.List;
import java.util.Set;
import java.util.TreeSet;
import java.util.regex.Matcher;
import java.util.regex.Pattern;

/** What of LANGUAGE.md can be seen in the source's text and in the class's face. */
public final class LanguageTests {
    private static final String[] FORBIDDEN = {
        "throw", "throws", "try", "catch", "finally", "synchronized", "assert", "native", "volatile", "transient",
        "protected", "var", "Object", "System\\.(?!arraycopy)", "Thread", "Random", "Exception", "Error", "->", "::",
        "static\\s*\\{", "hashCode", "toString", "\\w+Exact"
    };

    private static int wrong;

    private LanguageTests() {
    }

    public static void main(String[] args) throws IOException {
        Path path = Path.of(args.length > 0 ? args[0] : "src/main/java/TwoLevels.java");
        String source = Files.readString(path, StandardCharsets.ISO_8859_1);
        String bare = bare(source);
        words(source, bare);
        methodLengths(bare);
        face();
        for (Class<?> inside : TwoLevels.class.getDeclaredClasses()) nested(inside);
        must(TwoLevels.class.getDeclaredClasses().length <= 12, "classes inside: " + TwoLevels.class.getDeclaredClasses().length);
        System.out.println(wrong == 0 ? "the language is kept to" : wrong + " rules are not kept to");
        if (wrong != 0) System.exit(1);
    }

    private static void must(boolean so, String what) {
        if (!so) {
            wrong++;
            System.out.println(what);
        }
    }

    /** The source with comments and what stands in quotes taken out, its lines kept. */
    private static String bare(String source) {
        Matcher m = Pattern.compile("/\\*.*?\\*/|//[^\\n]*|\"(\\\\.|[^\"\\\\])*\"|'(\\\\.|[^'\\\\])+'", Pattern.DOTALL).matcher(source);
        return m.replaceAll(r -> "0" + "\n".repeat((int) r.group().chars().filter(c -> c == '\n').count()));
    }

    private static void words(String source, String bare) {
        for (String word : FORBIDDEN) {
            String seen = Character.isLetter(word.charAt(0)) ? "\\b" + word + (word.endsWith(")") ? "" : "\\b") : word;
            Matcher m = Pattern.compile(seen).matcher(bare);
            must(!m.find(), "the source has " + word);
        }
        Matcher imports = Pattern.compile("import ([^;]*);").matcher(bare);
        while (imports.find()) must(List.of("java.util.Arrays", "java.util.ArrayList", "java.util.List").contains(imports.group(1)), "import " + imports.group(1));
        must(!bare.contains("package "), "a package line");
        must(source.chars().allMatch(c -> c == '\n' || c >= 32 && c < 127), "a sign that is not plain");
        must(!Pattern.compile("while\\s*\\(\\s*true").matcher(bare).find(), "a loop without an end");
        must(!Pattern.compile("for\\s*\\([^;()]*;\\s*;").matcher(bare).find(), "a loop without an end");
    }

    private static void methodLengths(String bare) {
        String[] lines = bare.split("\n", -1);
        for (int i = 0; i < lines.length; i++) {
            if (!lines[i].matches("\\s+[\\w\\s\\[\\]<>]+\\([^;]*\\) \\{") || lines[i].matches("\\s+(if|for|while|switch|else|return).*")) continue;
            String indent = lines[i].substring(0, lines[i].length() - lines[i].stripLeading().length());
            int end = i;
            while (end < lines.length && !lines[end].equals(indent + "}")) end++;
            must(end - i < 60, "a method of " + (end - i + 1) + " lines at line " + (i + 1));
        }
    }

    private static void face() {
        Class<?> c = TwoLevels.class;
        must(Modifier.isPublic(c.getModifiers()) && Modifier.isFinal(c.getModifiers()), "the class is public and final");
        Set<String> names = new TreeSet<>();
        for (Method m : c.getDeclaredMethods()) {
            if (Modifier.isPublic(m.getModifiers())) {
                names.add(m.getName() + m.getParameterCount());
                must(m.getReturnType() == int.class && Arrays.stream(m.getParameterTypes()).allMatch(p -> p == int.class), m.getName() + " has ints alone");
            } else {
                must(Modifier.isPrivate(m.getModifiers()), m.getName() + " is not private");
            }
        }
        Set<String> due = new TreeSet<>();
        for (int i = 0; i < Calls.NAMES.length; i++) due.add(Calls.NAMES[i] + Calls.ARGUMENTS[i]);
        must(names.equals(due), "public methods: " + names);
        for (Field f : c.getDeclaredFields()) {
            boolean none = f.getName().equals("NONE") && Modifier.isPublic(f.getModifiers());
            must(none || Modifier.isPrivate(f.getModifiers()), "field " + f.getName() + " is not private");
        }
        must(c.getDeclaredConstructors().length == 1 && c.getConstructors().length == 1, "one public constructor");
        common(c);
    }

    private static void nested(Class<?> c) {
        must(Modifier.isStatic(c.getModifiers()) && Modifier.isPrivate(c.getModifiers()), c.getName() + " is private and static");
        Set<String> face = new HashSet<>(Arrays.asList(Calls.NAMES));
        for (Method m : c.getDeclaredMethods()) must(!face.contains(m.getName()), c.getName() + " has a method of the name " + m.getName());
        common(c);
    }

    private static void common(Class<?> c) {
        int fields = 0;
        Set<String> face = new HashSet<>(Arrays.asList(Calls.NAMES));
        for (Field f : c.getDeclaredFields()) {
            boolean constant = Modifier.isStatic(f.getModifiers());
            must(!constant || Modifier.isFinal(f.getModifiers()), "static field " + f.getName() + " is not final");
            fields += constant ? 0 : 1;
        }
        must(fields <= 20, c.getName() + " has " + fields + " fields");
        for (Method m : c.getDeclaredMethods()) {
            must(m.getParameterCount() <= 7, m.getName() + " has too many parameters");
            must(!m.isSynthetic(), m.getName() + " is made by the compiler");
            must(!Modifier.isPrivate(m.getModifiers()) || !face.contains(m.getName()), m.getName() + " is private, with a public one's name");
        }
    }
}
