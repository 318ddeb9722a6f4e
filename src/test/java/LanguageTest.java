import java.io.IOException;
import java.lang.reflect.Constructor;
import java.lang.reflect.Field;
import java.lang.reflect.Method;
import java.lang.reflect.Modifier;
import java.nio.file.Files;
import java.nio.file.Path;
import java.util.Arrays;
import java.util.HashSet;
import java.util.Set;
import java.util.TreeSet;
import java.util.regex.Matcher;
import java.util.regex.Pattern;

/** What can be seen of the rules of LANGUAGE.md in the source itself, and in the classes that come of it. */
public final class LanguageTest {
    private static final Checks C = new Checks();
    private static final String SOURCE = "src/main/java/RuleSentences.java";
    private static final int FIELDS_MOST = 22;
    private static final int CLASSES_MOST = 13;
    private static final int LINES_MOST = 62;
    private static final String FACE = "act(int,int):int clear():int command():int fault():int feed(long,int):int is(int,int):int kind(int,int):int"
        + " leads(int,int):int letter(int,int,int):int name(int,int,int):int object(int,int):int out(int):int outs():int property(int,int):int read():int"
        + " related(int,int,int):boolean rule(int,int):int told(int):int wipe():int";

    public static void main(String[] args) throws IOException {
        String code = bare(Files.readString(Path.of(SOURCE)));
        face();
        classes();
        forbidden(code);
        lengths(code);
        C.end("LanguageTest");
    }

    private static void face() {
        C.of("1. The face");
        Class<?> c = RuleSentences.class;
        C.due("the class is public and final", Modifier.isPublic(c.getModifiers()) && Modifier.isFinal(c.getModifiers()), true);
        C.due("NONE", RuleSentences.NONE, -1);
        Set<String> open = new TreeSet<>();
        Set<String> names = new HashSet<>();
        for (Method m : c.getDeclaredMethods()) {
            if (Modifier.isPublic(m.getModifiers())) {
                String types = Arrays.stream(m.getParameterTypes()).map(Class::getName).reduce((a, b) -> a + "," + b).orElse("");
                open.add(m.getName() + "(" + types + "):" + m.getReturnType().getName());
                names.add(m.getName());
            }
        }
        C.due("the public methods", String.join(" ", open), FACE);
        for (Method m : c.getDeclaredMethods()) {
            boolean face = Modifier.isPublic(m.getModifiers());
            C.due(m.getName() + "() is public or private", face || Modifier.isPrivate(m.getModifiers()) || m.isSynthetic(), true);
            C.due(m.getName() + "() bears a public name", names.contains(m.getName()), face);
        }
        for (Field f : c.getDeclaredFields()) {
            C.due(f.getName() + " is public", Modifier.isPublic(f.getModifiers()), f.getName().equals("NONE"));
            C.due(f.getName() + " is private, if not NONE", Modifier.isPrivate(f.getModifiers()), !f.getName().equals("NONE"));
        }
        C.due("constructors", c.getDeclaredConstructors().length, 1);
        for (Constructor<?> made : c.getDeclaredConstructors()) {
            C.due("the constructor is public", Modifier.isPublic(made.getModifiers()) && made.getParameterCount() == 0, true);
        }
    }

    private static void classes() {
        C.of("2., 5., 6., 11. The classes");
        Class<?>[] inside = RuleSentences.class.getDeclaredClasses();
        C.due("so many classes are few enough", inside.length + 1 <= CLASSES_MOST, true);
        members(RuleSentences.class);
        for (Class<?> c : inside) {
            C.due(c.getSimpleName() + " is static", Modifier.isStatic(c.getModifiers()), true);
            C.due(c.getSimpleName() + " is public or protected", Modifier.isPublic(c.getModifiers()) || Modifier.isProtected(c.getModifiers()), false);
            members(c);
        }
    }

    private static void members(Class<?> c) {
        int fields = 0;
        for (Field f : c.getDeclaredFields()) {
            boolean constant = Modifier.isStatic(f.getModifiers());
            C.due(c.getSimpleName() + "." + f.getName() + ", if static, is final", constant && !Modifier.isFinal(f.getModifiers()), false);
            fields += constant ? 0 : 1;
        }
        C.due(c.getSimpleName() + " has few enough fields", fields <= FIELDS_MOST, true);
        for (Method m : c.getDeclaredMethods()) {
            C.due(c.getSimpleName() + "." + m.getName() + "() takes at most seven", m.getParameterCount() <= 7, true);
            C.due(m.getName() + "() is of every object", Set.of("equals", "hashCode", "toString").contains(m.getName()) && !c.isRecord(), false);
        }
    }

    /** The source without comments and what stands in texts. */
    private static String bare(String source) {
        return source.replaceAll("(?s)/\\*.*?\\*/", "").replaceAll("//[^\n]*", "").replaceAll("'\\\\?.'", "' '")
            .replaceAll("\"[^\"\n]*\"", "\"\"");
    }

    private static void forbidden(String code) {
        C.of("6. No throw, try, catch, synchronized, assert; 2. no lambda, no method reference; 4. the library");
        String[] words = {"throw", "throws", "try", "catch", "synchronized", "assert", "package", "protected", "Object", "hashCode", "toString\\(\\) \\{", "Thread",
            "Exception", "Random", "nanoTime", "currentTimeMillis", "File", "getClass", "println"};
        for (String word : words) {
            C.due("the word " + word, Pattern.compile("\\b" + word + "(?!\\w)").matcher(code).find(), false);
        }
        C.due("lambdas", Pattern.compile("-> *[^\\s]").matcher(code.replaceAll("(case [^:\n]*?|default) ->", "")).find(), false);
        C.due("method references", code.contains("::"), false);
        Matcher imports = Pattern.compile("import ([\\w.]+)").matcher(code);
        while (imports.find()) {
            C.due("the import of " + imports.group(1), Set.of("java.util.ArrayList", "java.util.List", "java.util.Arrays", "java.util.Iterator")
                .contains(imports.group(1)), true);
        }
        C.due("labels aside, a file without a package", code.trim().startsWith("package"), false);
    }

    private static void lengths(String code) {
        C.of("11. Methods stay short (some sixty lines)");
        String[] lines = code.split("\n");
        int found = 0;
        for (int i = 0; i < lines.length; i++) {
            if (!lines[i].matches("^ {4,8}[\\w \\[\\]<>,]+\\([^;]*\\) \\{$")) {
                continue;
            }
            found++;
            String close = lines[i].replaceAll("\\S.*", "") + "}";
            int end = i;
            while (end < lines.length && !lines[end].equals(close)) {
                end++;
            }
            C.due("what begins with <" + lines[i].trim() + "> is short", end - i + 1 <= LINES_MOST, true);
        }
        C.due("methods were found", found > 20, true);
    }
}
