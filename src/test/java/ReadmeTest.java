import java.io.File;
import java.io.IOException;
import java.lang.reflect.Method;
import java.lang.reflect.Modifier;
import java.net.URL;
import java.net.URLClassLoader;
import java.nio.file.Files;
import java.nio.file.Path;
import java.util.Set;
import java.util.TreeSet;
import java.util.regex.Matcher;
import java.util.regex.Pattern;
import java.util.stream.Collectors;

/** What README.md says holds: its Java answers as it tells, the calls and the tests that it names are all there are. */
public final class ReadmeTest {
    private static final Pattern BLOCK = Pattern.compile("(?s)```java\n(.*?)```");
    private static final Pattern ANSWER = Pattern.compile("^(x\\..*);\\s*// (-?\\d+)\\b.*$");
    private static int wrong = 0;
    private static int asked = 0;

    public static void main(String[] args) throws IOException, ReflectiveOperationException, InterruptedException {
        String page = Files.readString(Path.of("README.md"));
        same("calls", named(page, "(?m)^- [A-Z][A-Za-z, ]*: (`[a-z].*)$", "`([a-z]+)`"), calls());
        same("tests", named(page, "(?s)## How to run its tests(.*)", "`(\\w+Test)`"), tests());
        run(program(page));
        System.out.println(asked + " answers, " + wrong + " not as README.md says");
        if (wrong != 0 || asked == 0) {
            System.exit(1);
        }
    }

    /** The program of README.md calls this with each answer that it tells. */
    public static void due(String call, long got, long want) {
        asked++;
        if (got != want) {
            wrong++;
            System.out.println(call + " answered " + got + ", README.md says " + want);
        }
    }

    private static void same(String what, Set<String> got, Set<String> want) {
        if (!got.equals(want)) {
            wrong++;
            System.out.println(what + " that README.md names: " + got + ", there are: " + want);
        }
    }

    private static Set<String> named(String page, String where, String what) {
        Set<String> names = new TreeSet<>();
        Matcher part = Pattern.compile(where).matcher(page);
        while (part.find()) {
            Matcher name = Pattern.compile(what).matcher(part.group(1));
            while (name.find()) {
                names.add(name.group(1));
            }
        }
        return names;
    }

    private static Set<String> calls() {
        Set<String> names = new TreeSet<>();
        for (Method m : GrainBins.class.getDeclaredMethods()) {
            if (Modifier.isPublic(m.getModifiers())) {
                names.add(m.getName());
            }
        }
        return names;
    }

    private static Set<String> tests() throws IOException {
        try (var files = Files.list(Path.of("src/test/java"))) {
            return files.map(f -> f.getFileName().toString().replace(".java", ""))
                .filter(name -> name.endsWith("Test")).collect(Collectors.toCollection(TreeSet::new));
        }
    }

    /** The first piece of Java is a method, the second one calls; an answer told behind a call becomes due. */
    private static String program(String page) {
        Matcher block = BLOCK.matcher(page);
        StringBuilder said = new StringBuilder("public final class ReadmeProgram {\n");
        said.append(block.find() ? block.group(1) : "").append("public static void run() {\n");
        for (String line : (block.find() ? block.group(1) : "").split("\n")) {
            Matcher told = ANSWER.matcher(line);
            said.append(told.matches()
                ? "ReadmeTest.due(\"" + told.group(1) + "\", " + told.group(1) + ", " + told.group(2) + ");" : line);
            said.append('\n');
        }
        return said.append("}\n}\n").toString();
    }

    private static void run(String program) throws IOException, ReflectiveOperationException, InterruptedException {
        Path dir = Files.createTempDirectory("readme");
        Path source = dir.resolve("ReadmeProgram.java");
        Files.writeString(source, program);
        int failed = new ProcessBuilder("javac", "-cp", System.getProperty("java.class.path"), "-d", dir.toString(),
            source.toString()).inheritIO().start().waitFor();
        if (failed != 0) {
            wrong++;
            System.out.println("the Java of README.md does not compile");
        } else {
            try (URLClassLoader loader = new URLClassLoader(new URL[] {dir.toUri().toURL()})) {
                loader.loadClass("ReadmeProgram").getMethod("run").invoke(null);
            }
        }
        for (File file : dir.toFile().listFiles()) {
            Files.delete(file.toPath());
        }
        Files.delete(dir);
    }
}
