import java.nio.file.Files;
import java.nio.file.Path;
import java.util.List;
import java.util.regex.Pattern;

/** Some rules of LANGUAGE.md that can be seen in the program's text. */
public final class LanguageTest {
    private static final String[] NEVER = {
        "->", "::", "\\btry\\b", "\\bfinally\\b", "\\bsynchronized\\b", "\\bassert\\b", "\\bSystem\\.(?!arraycopy\\()",
        "static\\s*\\{", "\\bRandom\\b", "\\bThread\\b", "\"\\s*\\+", "\\+\\s*\"", "\\w+Exact\\(", "\\bdouble\\b", "\\bfloat\\b",
        "^package\\b", "\\binstanceof\\b", "\\bhashCode\\b", "\\btoString\\b", "^import (?!java\\.util\\.Arrays;)",
        "while \\(true\\)", "for \\(;;"};

    public static void main(String[] args) throws Exception {
        List<String> lines = Files.readAllLines(Path.of(args.length > 0 ? args[0] : "src/main/java/CoinScripts.java"));
        int classes = 0;
        int methodAt = 0;
        for (int k = 0; k < lines.size(); k++) {
            String line = lines.get(k);
            String code = line.replaceAll("//.*|^\\s*(/\\*\\*|\\*).*", "");
            for (String rule : NEVER) {
                Check.due("line " + (k + 1) + " has " + rule, Pattern.compile(rule).matcher(code).find(), false);
            }
            classes += code.matches(".*\\bclass \\w+.*") ? 1 : 0;
            boolean isMethod = code.matches("( {4}| {8})(public |private |static |final )*[\\w\\[\\]]+ ?\\w*\\(.*\\{");
            methodAt = isMethod ? k : methodAt;
            boolean isEnd = code.equals("    }") || code.equals("        }");
            Check.due("a method up to line " + (k + 1) + " is long", isEnd && methodAt > 0 && k - methodAt > 60, false);
            methodAt = isEnd ? 0 : methodAt;
            Check.due("line " + (k + 1) + " is long", line.length() > 125, false);
        }
        Check.due("classes", classes <= 12, true);
        Check.end();
    }
}
