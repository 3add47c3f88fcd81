import java.io.IOException;
import java.io.StringWriter;
import java.lang.reflect.Method;
import java.net.URL;
import java.net.URLClassLoader;
import java.nio.file.Files;
import java.nio.file.Path;
import java.util.ArrayList;
import java.util.List;
import java.util.Set;
import java.util.TreeSet;
import java.util.concurrent.ExecutorService;
import java.util.concurrent.Executors;
import java.util.concurrent.Future;
import javax.tools.JavaCompiler;
import javax.tools.ToolProvider;

/**
 * Breaks the program, each time in another place that breaks.txt names, and tells for which
 * breaks the test of the sentence that is broken does not fail. Not a part of .ci/run.
 */
public final class Breaks {
    private static final Path PROGRAM = Path.of("src", "main", "java", "ChairLeague.java");
    private static final Path LIST = Path.of("src", "test", "breaks.txt");
    private static final String[] TESTS = {"BoundariesOfTermsTest", "BoundariesOfOrdersTest",
        "BoundariesOfPromisesTest"};
    private static final long MOST_MILLIS = 20_000;

    private Breaks() {
    }

    /** A break: the beginning of a sentence, and what takes the place of what. */
    private static final class Break {
        String sentence = "";
        String from = "";
        String to = "";
    }

    public static void main(String[] args) throws Exception {
        System.setProperty("quiet", "true");
        String program = Files.readString(PROGRAM);
        Set<String> sentences = new TreeSet<>(partsOf(new URL[] {classes()}, "parts"));
        Set<String> unbroken = new TreeSet<>(sentences);
        ExecutorService workers = Executors.newFixedThreadPool(8);
        List<Break> breaks = read();
        List<Future<String>> answers = new ArrayList<>();
        for (Break one : breaks) {
            sentences.stream().filter(s -> s.startsWith(one.sentence)).forEach(unbroken::remove);
            answers.add(workers.submit(() -> tried(one, program, sentences)));
        }
        int survived = 0;
        for (Future<String> answer : answers) {
            if (!answer.get().isEmpty()) {
                survived++;
                System.out.println(answer.get());
            }
        }
        workers.shutdown();
        unbroken.forEach(sentence -> System.out.println("no break of: " + sentence));
        System.out.println(breaks.size() + " breaks, " + survived + " of them not as they should, "
                + unbroken.size() + " of " + sentences.size() + " sentences without one");
        System.exit(survived + unbroken.size() == 0 ? 0 : 1);
    }

    private static URL classes() {
        return Breaks.class.getProtectionDomain().getCodeSource().getLocation();
    }

    private static List<Break> read() throws IOException {
        List<Break> breaks = new ArrayList<>();
        Break latest = null;
        String sentence = "";
        for (String line : Files.readAllLines(LIST)) {
            if (line.startsWith("= ")) {
                sentence = line.substring(2);
            } else if (line.startsWith("< ")) {
                latest = new Break();
                latest.sentence = sentence;
                latest.from = line.substring(2);
                breaks.add(latest);
            } else if (line.startsWith("  ") && latest != null) {
                latest.from += "\n" + line;
            } else if (line.startsWith(">") && latest != null) {
                latest.to = line.substring(1).trim();
            }
        }
        return breaks;
    }

    /** Empty, or why the break is not as it should be. */
    private static String tried(Break one, String program, Set<String> sentences)
            throws Exception {
        String name = one.sentence + "\n    < " + one.from + "\n    > " + one.to + "\n    ";
        if (sentences.stream().filter(s -> s.startsWith(one.sentence)).count() != 1) {
            return name + "is no break of one sentence";
        }
        int place = program.indexOf(one.from);
        if (place < 0 || program.indexOf(one.from, place + 1) >= 0) {
            return name + "is not there, or not once";
        }
        Path folder = Files.createTempDirectory("break");
        Path source = folder.resolve("ChairLeague.java");
        Files.writeString(source, program.replace(one.from, one.to));
        JavaCompiler compiler = ToolProvider.getSystemJavaCompiler();
        StringWriter told = new StringWriter();
        boolean isRight = compiler.getTask(told, null, null, List.of("-d", folder.toString()), null,
                compiler.getStandardFileManager(null, null, null)
                        .getJavaFileObjects(source)).call();
        if (!isRight) {
            return name + "does not compile: " + told;
        }
        Set<String> wrong = partsOf(new URL[] {folder.toUri().toURL(), classes()}, "wrongParts");
        boolean isFound = wrong.stream().anyMatch(s -> s.startsWith(one.sentence));
        return isFound ? "" : name + "is not found; instead: " + wrong;
    }

    /** The sentences that the tests ask, or those of which an answer is wrong. */
    private static Set<String> partsOf(URL[] places, String which) throws Exception {
        Set<String> parts = new TreeSet<>();
        for (String test : TESTS) {
            Thread thread = new Thread(() -> parts.addAll(partsOf(places, test, which)));
            thread.setDaemon(true);
            thread.start();
            thread.join(MOST_MILLIS);
            if (thread.isAlive()) {
                parts.add("the test does not end");
            }
        }
        return parts;
    }

    private static Set<String> partsOf(URL[] places, String test, String which) {
        Set<String> parts = new TreeSet<>();
        // The platform's loader alone stands behind, so that each break has classes of its own.
        try (URLClassLoader loader = new URLClassLoader(places,
                ClassLoader.getPlatformClassLoader())) {
            Class<?> tests = loader.loadClass(test);
            Method all = tests.getDeclaredMethod("all");
            all.setAccessible(true);
            Object check = all.invoke(null);
            Method told = check.getClass().getDeclaredMethod(which);
            told.setAccessible(true);
            for (Object part : (Set<?>) told.invoke(check)) {
                parts.add((String) part);
            }
        } catch (ReflectiveOperationException | IOException e) {
            parts.add(test + " does not end well: " + e.getCause());
        }
        return parts;
    }
}
