import java.io.IOException;
import java.io.OutputStream;
import java.io.PrintStream;
import java.lang.reflect.Method;
import java.net.URL;
import java.net.URLClassLoader;
import java.nio.file.Files;
import java.nio.file.Path;
import java.util.ArrayList;
import java.util.List;
import java.util.concurrent.ExecutionException;
import java.util.concurrent.ExecutorService;
import java.util.concurrent.Executors;
import java.util.concurrent.Future;
import java.util.concurrent.TimeUnit;
import java.util.concurrent.TimeoutException;
import javax.tools.JavaCompiler;
import javax.tools.ToolProvider;

/**
 * Breaks the class as the tests of single sentences tell, in one place at a time, and makes that one test with it, which
 * has to fail. Started by .ci/mutants; not a part of .ci/run.
 */
public final class Mutants {
    private static final Path SOURCE = Path.of("src/main/java/CellHandover.java");
    private static final long SECONDS = 30;
    private static final PrintStream OUT = System.out;

    private final String source;
    private final URL tests;
    private final Path work;

    private Mutants(String source, URL tests, Path work) {
        this.source = source;
        this.tests = tests;
        this.work = work;
    }

    /** The argument is the directory with the compiled tests. */
    public static void main(String[] args) throws Exception {
        System.setOut(new PrintStream(OutputStream.nullOutputStream()));
        Path work = Files.createTempDirectory("mutants");
        Mutants mutants = new Mutants(Files.readString(SOURCE), Path.of(args[0]).toUri().toURL(), work);
        ExecutorService pool = Executors.newFixedThreadPool(Runtime.getRuntime().availableProcessors());
        List<Future<String>> results = new ArrayList<>();
        List<String> unbroken = new ArrayList<>();
        for (Method test : Sentences.all()) {
            Break[] breaks = test.getAnnotationsByType(Break.class);
            if (breaks.length == 0) {
                unbroken.add(Sentences.nameOf(test));
            }
            for (Break change : breaks) {
                int number = results.size();
                results.add(pool.submit(() -> mutants.result(number, Sentences.nameOf(test), change.value())));
            }
        }
        int bad = 0;
        for (Future<String> result : results) {
            if (!result.get().isEmpty()) {
                bad++;
                OUT.println(result.get());
            }
        }
        OUT.println("without a break: " + unbroken);
        OUT.println(results.size() + " breaks, " + bad + " not found by their test");
        // A test that hangs would hold up the end.
        Runtime.getRuntime().halt(bad == 0 && !results.isEmpty() ? 0 : 1);
    }

    /** Empty if the test fails as it should. */
    private String result(int number, String test, String[] change) {
        String name = test + ": " + String.join(" | ", change).replaceAll("\\s+", " ");
        int from = change.length == 3 ? source.indexOf(change[0]) : -1;
        int at = from < 0 ? -1 : source.indexOf(change[1], from);
        if (at < 0) {
            return "not in the class: " + name;
        }
        String broken = source.substring(0, at) + change[2] + source.substring(at + change[1].length());
        try {
            Path directory = Files.createDirectory(work.resolve("m" + number));
            Path file = Files.writeString(directory.resolve("CellHandover.java"), broken);
            if (!compiles(directory, file)) {
                return "does not compile: " + name;
            }
            return failsWith(directory, test) ? "" : "still passes: " + name;
        } catch (IOException e) {
            return "broke off with " + e + ": " + name;
        }
    }

    private static boolean compiles(Path directory, Path file) {
        JavaCompiler compiler = ToolProvider.getSystemJavaCompiler();
        OutputStream nowhere = OutputStream.nullOutputStream();
        return compiler.run(null, nowhere, nowhere, "-nowarn", "-d", directory.toString(), file.toString()) == 0;
    }

    /** True too if the test does not end in time. */
    private boolean failsWith(Path directory, String test) throws IOException {
        URL[] places = {directory.toUri().toURL(), tests};
        ExecutorService thread = Executors.newSingleThreadExecutor();
        try (URLClassLoader loader = new URLClassLoader(places, ClassLoader.getPlatformClassLoader())) {
            Future<Integer> wrong = thread.submit(() -> {
                Method run = loader.loadClass("Sentences").getDeclaredMethod("wrongIn", String.class);
                run.setAccessible(true);
                return (Integer) run.invoke(null, test);
            });
            return wrong.get(SECONDS, TimeUnit.SECONDS) > 0;
        } catch (TimeoutException e) {
            return true;
        } catch (ExecutionException | InterruptedException e) {
            throw new IOException(e);
        } finally {
            thread.shutdownNow();
        }
    }
}
