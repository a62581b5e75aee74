import java.io.IOException;
import java.nio.file.Files;
import java.nio.file.Path;
import java.util.List;
import java.util.Set;
import java.util.TreeSet;
import java.util.regex.Matcher;
import java.util.regex.Pattern;

/** The rules of ../shared/LANGUAGE.md that can be seen in the words of the source. */
public final class RulesTest {
    private static final List<String> ALLOWED = List.of("Arrays.fill", "System.arraycopy", "Math.max", "Math.min",
            "Math.abs", "Long.bitCount", "Integer.bitCount", "Long.numberOfTrailingZeros");
    private static final List<String> FORBIDDEN = List.of("->", "::", "\\bpackage\\b", "\\bsynchronized\\b",
            "\\bassert\\b", "\\btry\\b", "\\bcatch\\b", "\\bfinally\\b", "\\bfloatValue\\b", "\\bhashCode\\b",
            "\\btoString\\b", "\\bequals\\b", "\\bgetMessage\\b", "\\bprotected\\b", "\\bvar\\b", "\\bfor \\(;",
            "\\bwhile \\(true\\)", "\\bThread\\b", "\\bRandom\\b", "\\bObject\\b", "\\binstanceof\\b",
            "Exact\\(", "\"\"\\s*\\+", "\\+\\s*\"\"");

    public static void main(String[] args) throws IOException {
        String source = Files.readString(Path.of("src/main/java/IsingLab.java"));
        Check.same("signs", source.chars().allMatch(c -> c == 10 || c >= 32 && c < 127), true);
        String bare = source.replaceAll("(?s)/\\*.*?\\*/", "").replaceAll("//[^\n]*", "")
                .replaceAll("\"[^\"\n]*\"", "\"\"");
        String code = bare.replaceAll("new Exact\\(|\\bExact\\(State state\\)", "");
        for (String word : FORBIDDEN) {
            Matcher m = Pattern.compile(word).matcher(code);
            Check.same("no " + word, m.find(), false);
        }
        imports(bare);
        library(bare);
        names(bare);
        lengths(bare);
        exceptions(bare);
        Check.end();
    }

    private static Set<String> all(String text, String pattern) {
        Set<String> found = new TreeSet<>();
        Matcher m = Pattern.compile(pattern).matcher(text);
        while (m.find()) {
            found.add(m.group(1));
        }
        return found;
    }

    private static void imports(String text) {
        Check.same("imports", all(text, "import ([\\w.]+);"),
                Set.of("java.util.Arrays", "java.util.NoSuchElementException"));
    }

    private static void library(String text) {
        for (String use : all(text, "\\b((?:Arrays|System|Math|Long|Integer|String|Double|Float)\\.\\w+)\\(")) {
            Check.same("allowed " + use, ALLOWED.contains(use), true);
        }
        Check.same("static fields are final", all(text, "(static (?!final)[\\w\\[\\]]+ \\w+ ?[=;])"), Set.of());
        Check.same("classes", all(text, "class (\\w+)").size() <= 12, true);
    }

    private static void names(String text) {
        Set<String> face = all(text, "\n    public [\\w]+ (\\w+)\\(");
        Check.same("methods of the face", face.size(), 64);
        Set<String> own = all(text, "\n    private (?:static )?[\\w\\[\\]]+ (\\w+)\\(");
        own.addAll(all(text, "\n        (?:private )?(?:static )?[\\w\\[\\]]+ (\\w+)\\([^\n;]*\\{"));
        own.retainAll(face);
        Check.same("own methods with a name of the face", own, Set.of());
    }

    /** A method's head and its end stand at the same depth, and nothing else stands there. */
    private static void lengths(String text) {
        String[] lines = text.split("\n");
        for (String in : new String[] {"    ", "        "}) {
            int head = -1;
            for (int i = 0; i < lines.length; i++) {
                if (lines[i].matches(in + "[a-zA-Z].*\\(.*") && !lines[i].endsWith(";")
                        && !lines[i].matches(" *(if|for|while|switch|return|else).*")) {
                    head = i;
                    int commas = lines[i].replaceAll("[^,]", "").length();
                    Check.same("parameters of " + lines[i].trim(), commas < 7, true);
                }
                if (lines[i].equals(in + "}") && head >= 0) {
                    Check.same("lines of " + lines[head].trim(), i - head + 1 <= 60, true);
                    head = -1;
                }
            }
        }
    }

    private static void exceptions(String text) {
        Check.same("exceptions", all(text, "throw new (\\w+)\\(\"\"\\);"), Set.of("IllegalArgumentException",
                "IllegalStateException", "IndexOutOfBoundsException", "NoSuchElementException"));
        Check.same("each throw is of this form", text.split("\\bthrow\\b").length,
                text.split("throw new \\w+\\(\"\"\\);").length);
    }
}
