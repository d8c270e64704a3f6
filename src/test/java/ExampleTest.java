import java.io.IOException;
import java.lang.reflect.InvocationTargetException;
import java.lang.reflect.Method;
import java.nio.file.Files;
import java.nio.file.Path;
import java.util.regex.Matcher;
import java.util.regex.Pattern;

/** The examples of DOC.md, as they stand there: each is a run of calls of a new object. */
public final class ExampleTest {
    private static final Path DOC = Path.of("../shared/DOC.md");
    private static final Pattern CALL = Pattern.compile("(\\w+)\\(([-\\d, ]*)\\) returns (-?\\w+)");

    public static void main(String[] args) throws IOException, IllegalAccessException {
        if (!Files.exists(DOC)) {
            System.out.println("no " + DOC + ": no examples");
            return;
        }
        Check check = new Check();
        String[] parts = Files.readString(DOC).replaceAll("\\s+", " ").split("Example (?=\\d+: )");
        check.is("examples", parts.length - 1, 4);
        for (int i = 1; i < parts.length; i++) {
            CellHandover h = new CellHandover();
            Matcher call = CALL.matcher(parts[i]);
            while (call.find()) {
                check.same("example " + i + ": " + call.group(), answer(h, call), call.group(3));
            }
        }
        check.end();
    }

    private static String answer(CellHandover h, Matcher call) throws IllegalAccessException {
        String[] texts = call.group(2).isEmpty() ? new String[0] : call.group(2).split(", ");
        Object[] arguments = new Object[texts.length];
        for (int i = 0; i < texts.length; i++) {
            arguments[i] = Integer.parseInt(texts[i]);
        }
        for (Method method : CellHandover.class.getMethods()) {
            if (method.getName().equals(call.group(1)) && method.getParameterCount() == arguments.length) {
                try {
                    return String.valueOf(method.invoke(h, arguments));
                } catch (InvocationTargetException e) {
                    return "throws " + e.getCause();
                }
            }
        }
        return "no such call";
    }
}
