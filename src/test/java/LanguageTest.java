import java.io.IOException;
import java.nio.file.Files;
import java.nio.file.Path;
import java.util.ArrayList;
import java.util.Arrays;
import java.util.HashSet;
import java.util.List;
import java.util.Set;
import java.util.regex.Matcher;
import java.util.regex.Pattern;

/** What can be seen of the rules of LANGUAGE.md in the source itself. */
public final class LanguageTest {
    private static final Checks C = new Checks();
    private static final String SOURCE = "src/main/java/RuleSentences.java";
    private static final Set<String> FACE = new HashSet<>(Arrays.asList("feed", "wipe", "read", "fault", "told", "name", "kind", "object", "is",
        "property", "letter", "leads", "related", "rule", "act", "command", "outs", "out", "clear"));
    private static final Pattern METHOD = Pattern.compile(
        "^ {4,8}((?:public |private |static |final )*)([\\w\\[\\]]+) (\\w+)\\(([^)]*)\\) \\{$");

    public static void main(String[] args) throws IOException {
        String code = bare(Files.readString(Path.of(SOURCE)));
        forbidden(code);
        methods(code);
        C.end("LanguageTest");
    }

    /** The source without comments and what stands in texts. */
    private static String bare(String source) {
        return source.replaceAll("(?s)/\\*.*?\\*/", "").replaceAll("//[^\n]*", "").replaceAll("'\\\\?.'", "' '")
            .replaceAll("\"[^\"\n]*\"", "\"\"");
    }

    private static void forbidden(String code) {
        String[] words = {"throw", "throws", "try", "catch", "synchronized", "assert", "import", "package", "interface", "protected", "System", "Object",
            "double", "float", "hashCode", "equals", "toString", "Thread", "Exception"};
        for (String word : words) {
            C.due("the word " + word, Pattern.compile("\\b" + word + "\\b").matcher(code).find(), false);
        }
        C.due("lambdas", code.contains("->"), false);
        C.due("method references", code.contains("::"), false);
        C.due("classes", count(code, "\\bclass \\w+ \\{"), 12);
        C.due("public things", count(code, "\\bpublic\\b"), 1 + 1 + 1 + FACE.size());
        C.due("static fields are final", count(code, "static (?!final)\\w+(\\[\\])* \\w+( =|;)"), 0);
        C.due("objects are made in constructors and fields alone", count(code, "= new "), madeByFieldsAndConstructors(code));
    }

    private static int count(String code, String pattern) {
        Matcher m = Pattern.compile(pattern).matcher(code);
        int n = 0;
        while (m.find()) {
            n++;
        }
        return n;
    }

    private static int madeByFieldsAndConstructors(String code) {
        int n = 0;
        boolean constructor = false;
        for (String line : code.split("\n")) {
            boolean begins = line.matches("^ {4,8}(public )?[A-Z]\\w+\\([^)]*\\) \\{$");
            constructor = begins || constructor && !line.matches("^ {4,8}\\}$");
            boolean field = line.matches("^ {4,8}(private |static |final )*[\\w\\[\\]]+ \\w+ = new .*");
            n += line.contains("= new ") && (constructor || field) ? 1 : 0;
        }
        return n;
    }

    private static void methods(String code) {
        List<String> lines = new ArrayList<>(Arrays.asList(code.split("\n")));
        int found = 0;
        for (int i = 0; i < lines.size(); i++) {
            Matcher m = METHOD.matcher(lines.get(i));
            if (!m.matches()) {
                continue;
            }
            found++;
            String name = m.group(3);
            boolean open = m.group(1).contains("public");
            C.due(name + "() is public", FACE.contains(name), open);
            C.due(name + "() takes at most seven", m.group(4).split(",").length <= 7, true);
            int end = i;
            String close = lines.get(i).replaceAll("\\S.*", "") + "}";
            while (!lines.get(end).equals(close)) {
                end++;
            }
            C.due(name + "() is short", end - i + 1 <= 60, true);
        }
        C.due("methods were found", found > 150, true);
    }
}
