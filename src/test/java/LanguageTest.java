import java.io.IOException;
import java.nio.file.Files;
import java.nio.file.Path;
import java.util.List;
import java.util.Set;
import java.util.regex.Matcher;
import java.util.regex.Pattern;

/** Some rules of LANGUAGE.md, as far as the text of the class tells; a number in brackets is the rule's. */
public final class LanguageTest {
    private static final Path SOURCE = Path.of("src/main/java/CellHandover.java");
    private static final String[] NEVER = {
        "(1) \\bpackage\\b", "(2) ->", "(2) ::", "(3) \\bdouble\\b", "(3) \\bfloat\\b", "(4) \\w+Exact\\(", "(5) static \\{",
        "(6) \\btry\\b", "(6) \\bcatch\\b", "(6) \\bfinally\\b", "(6) \\bsynchronized\\b", "(6) \\bassert\\b",
        "(6) \\bhashCode\\b", "(6) \\btoString\\b", "(10) \" *\\+", "(10) \\+ *\"", "(13) System\\.(?!arraycopy)", "(13) Random",
        "(13) Thread",
    };
    private static final Set<String> IMPORTS = Set.of("java.util.Arrays", "java.util.NoSuchElementException");

    public static void main(String[] args) throws IOException {
        Check check = new Check();
        String source = Files.readString(SOURCE);
        String code = source.replaceAll("(?s)/\\*.*?\\*/", "").replaceAll("//.*", "");
        for (String rule : NEVER) {
            Matcher found = Pattern.compile(rule.substring(rule.indexOf(' ') + 1)).matcher(code);
            check.fails(rule, found.find());
        }
        Matcher imports = Pattern.compile("import ([\\w.]+);").matcher(code);
        while (imports.find()) {
            check.holds("(4) import " + imports.group(1), IMPORTS.contains(imports.group(1)));
        }
        Matcher fields = Pattern.compile("(?m)^ +(?:public |private )?static (?!final)[^(]*[;=]").matcher(code);
        check.fails("(5) a static field that is not final", fields.find());
        int classes = code.split("\\bclass ", -1).length - 1;
        check.holds("(11) classes: " + classes, classes <= 12);
        check.is("(3) signs above 126", source.chars().filter(c -> c > 126).count(), 0);
        methods(check, code.lines().toList());
        constructors(check, code);
        check.end();
    }

    private static void methods(Check check, List<String> lines) {
        Pattern head = Pattern.compile("^( {4}| {8})(?:public |private )?(?:static )?(?:\\w+(?:\\[\\])? )?(\\w+)\\((.*)\\).*\\{$");
        for (int i = 0; i < lines.size(); i++) {
            Matcher method = head.matcher(lines.get(i));
            if (method.matches()) {
                int end = i;
                while (!lines.get(end).equals(method.group(1) + "}")) {
                    end++;
                }
                check.holds("(11) lines of " + method.group(2), end - i + 1 <= 60);
                check.holds("(11) parameters of " + method.group(2), method.group(3).split(",").length <= 7);
            }
        }
    }

    private static void constructors(Check check, String code) {
        Matcher constructor = Pattern.compile("(?m)^ +(?:public )?([A-Z]\\w*)\\([^)]*\\) \\{([^}]*)").matcher(code);
        while (constructor.find()) {
            check.fails("(6) a throw in the constructor " + constructor.group(1), constructor.group(2).contains("throw"));
        }
    }
}
