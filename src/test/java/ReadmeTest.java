import java.lang.reflect.InvocationTargetException;
import java.net.URL;
import java.net.URLClassLoader;
import java.nio.file.Files;
import java.nio.file.Path;
import java.util.regex.Matcher;
import java.util.regex.Pattern;

/** Makes the calls that README.md shows: its blocks are compiled as one program, and each answer told there is compared. */
public final class ReadmeTest {
    private static final Pattern BLOCK = Pattern.compile("```java\n(.*?)```", Pattern.DOTALL);
    private static final Pattern CALL = Pattern.compile("(int \\w+ = )?(\\w.*); *// ([-\\w]+)(,.*)?");
    private static final int FEWEST_ANSWERS = 40;

    private static final Check CHECK = new Check();

    private ReadmeTest() {
    }

    public static void main(String[] args) throws Exception {
        StringBuilder members = new StringBuilder();
        StringBuilder calls = new StringBuilder();
        Matcher block = BLOCK.matcher(Files.readString(Path.of("README.md")));
        while (block.find()) {
            if (block.group(1).contains("static ")) {
                members.append(block.group(1));
            } else {
                addCalls(calls, block.group(1));
            }
        }
        run("public final class Readme {\n" + members + "public static void main(String[] args) {\n" + calls + "}\n}\n");
        CHECK.holds("README.md shows answers", CHECK.checks() >= FEWEST_ANSWERS);
        CHECK.end();
    }

    private static void addCalls(StringBuilder to, String block) {
        for (String line : block.split("\n")) {
            Matcher call = CALL.matcher(line);
            if (call.matches()) {
                addCall(to, call.group(1), call.group(2), call.group(3));
            } else {
                to.append(line).append('\n');
            }
        }
    }

    private static void addCall(StringBuilder to, String variable, String call, String due) {
        if (due.endsWith("Exception")) {
            to.append("try { ").append(call).append("; ").append(comparison(call, "\"nothing\"", due)).append("}\n");
            to.append("catch (RuntimeException e) { ");
            to.append(comparison(call, "e.getClass().getSimpleName()", due)).append("}\n");
        } else if (variable != null) {
            to.append(variable).append(call).append(";\n").append(comparison(call, variable.split(" ")[1], due));
        } else {
            to.append(comparison(call, call, due));
        }
    }

    private static String comparison(String call, String got, String due) {
        return "ReadmeTest.compare(\"" + call.replace("\"", "'") + "\", \"\" + " + got + ", \"" + due + "\");\n";
    }

    /** Called by the program that README.md makes. */
    public static void compare(String call, String got, String due) {
        CHECK.same("README.md: " + call, got, due);
    }

    private static void run(String program) throws Exception {
        Path work = Files.createTempDirectory("readme");
        Path source = Files.writeString(work.resolve("Readme.java"), program);
        int failed = new ProcessBuilder("javac", "-cp", System.getProperty("java.class.path"), "-d", work.toString(),
                source.toString()).inheritIO().start().waitFor();
        CHECK.is("compiling what README.md shows", failed, 0);
        if (failed != 0) {
            return;
        }
        try (URLClassLoader loader = new URLClassLoader(new URL[] {work.toUri().toURL()})) {
            loader.loadClass("Readme").getMethod("main", String[].class).invoke(null, (Object) new String[0]);
        } catch (InvocationTargetException e) {
            CHECK.fails("the program of README.md threw " + e.getCause(), true);
        }
    }
}
