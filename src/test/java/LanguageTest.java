import java.nio.file.Files;
import java.nio.file.Path;
import java.util.List;
import java.util.regex.Pattern;

/** Some rules of LANGUAGE.md that can be seen in the program's text. */
public final class LanguageTest {
    private static final String[] NEVER = {
        "^package\\b", "^import (?!java\\.util\\.(Arrays|ArrayList|List|Iterator);)", "->|::",
        "\\bfinally\\b", "\\bsynchronized\\b", "\\bassert\\b", "static\\s*\\{", "\\bprotected\\b",
        "\\bSystem\\.(?!arraycopy\\()", "\\bRandom\\b", "\\bThread\\b", "\"\\s*\\+", "\\+\\s*\"", "\\w+Exact\\(",
        "\\bhashCode\\b", "\\bextends \\w*Exception\\b", "while \\(true\\)", "for \\(;;",
        "\\bthrow (?!new (IllegalState|IllegalArgument|IndexOutOfBounds|Arithmetic|UnsupportedOperation|NoSuchElement|Runtime)"
            + "Exception\\((\"[^\"]*\")?\\);)"};
    private static final int MOST_LINES = 60;
    private static final int MOST_CLASSES = 12;
    private static final int MOST_PARAMETERS = 7;

    public static void main(String[] args) throws Exception {
        List<String> lines = Files.readAllLines(Path.of(args.length > 0 ? args[0] : "src/main/java/CoinScripts.java"));
        int classes = 0;
        int methodAt = 0;
        for (int k = 0; k < lines.size(); k++) {
            String code = lines.get(k).replaceAll("//.*|^\\s*(/\\*\\*|\\*).*", "");
            for (String rule : NEVER) {
                Check.due("line " + (k + 1) + " has " + rule, Pattern.compile(rule).matcher(code).find(), false);
            }
            classes += code.matches(".*\\bclass \\w+.*") ? 1 : 0;
            boolean isMethod = code.matches("( {4}| {8})(public |private |static |final )*[\\w\\[\\]]+ ?\\w*\\(.*\\{");
            if (isMethod) {
                methodAt = k;
                String parameters = code.replaceAll(".*\\((.*)\\).*", "$1");
                Check.due("line " + (k + 1) + ": parameters", parameters.split(",").length <= MOST_PARAMETERS, true);
            }
            boolean isEnd = code.equals("    }") || code.equals("        }");
            boolean isLong = isEnd && methodAt > 0 && k - methodAt > MOST_LINES;
            Check.due("a method up to line " + (k + 1) + " is long", isLong, false);
            methodAt = isEnd ? 0 : methodAt;
        }
        Check.due("classes", classes <= MOST_CLASSES, true);
        Check.end();
    }
}
