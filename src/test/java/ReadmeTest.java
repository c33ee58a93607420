import java.io.IOException;
import java.lang.reflect.Method;
import java.lang.reflect.Modifier;
import java.nio.file.Files;
import java.nio.file.Path;
import java.util.ArrayList;
import java.util.List;
import java.util.Set;
import java.util.TreeSet;
import java.util.regex.Matcher;
import java.util.regex.Pattern;
import java.util.stream.Stream;
import javax.tools.ToolProvider;

/** What README.md says is so: its code is compiled and run, its lists are held against what there is. */
public final class ReadmeTest {
    private static final Pattern ANSWERED = Pattern.compile("(x\\.\\w+\\(.*?\\)); +// (-?\\d+)\\b.*");
    private static int wrong = 0;

    private static void must(boolean holds, String what) {
        if (!holds) {
            wrong++;
            System.out.println("README.md, not so: " + what);
        }
    }

    /** Called by the code that is made of README.md's example. */
    public static void due(String call, int got, int want) {
        must(got == want, call + " answers " + want + ", it is " + got);
    }

    public static void main(String[] args) throws Exception {
        if (args.length == 0) {
            System.out.println("the path of the class's source is missing");
            System.exit(1);
        }
        Path root = Path.of(args[0]).toAbsolutePath().normalize().resolve("../../../..").normalize();
        String page = Files.readString(root.resolve("README.md"));
        List<String> blocks = blocks(page, "java");
        must(blocks.size() == 2, "a helper and an example");
        if (wrong == 0) {
            runExample(blocks.get(0), blocks.get(1));
        }
        callsAreNamed(page);
        testsAreNamed(page, root);
        must(Files.isExecutable(root.resolve(blocks(page, "sh").get(0).trim())), "how the tests are run");
        System.out.println(wrong == 0 ? "README.md is so" : wrong + " sayings are not so");
        if (wrong != 0) {
            System.exit(1);
        }
    }

    private static List<String> blocks(String page, String language) {
        List<String> blocks = new ArrayList<>();
        Matcher block = Pattern.compile("(?s)```" + language + "\\n(.*?)```").matcher(page);
        while (block.find()) {
            blocks.add(block.group(1));
        }
        return blocks;
    }

    private static void runExample(String helper, String example) throws Exception {
        StringBuilder body = new StringBuilder();
        for (String line : example.split("\n")) {
            Matcher answered = ANSWERED.matcher(line);
            boolean isAnswered = answered.matches();
            must(isAnswered || !line.startsWith("x."), "each call of the example has its answer: " + line);
            body.append(isAnswered
                ? "ReadmeTest.due(\"" + answered.group(1) + "\", " + answered.group(1) + ", " + answered.group(2) + ");"
                : line).append('\n');
        }
        Path folder = Files.createTempDirectory("readme");
        Path source = folder.resolve("ReadmeExample.java");
        Files.writeString(source, "public final class ReadmeExample {\n" + helper
            + "public static void main(String[] args) {\n" + body + "}\n}\n");
        int failed = ToolProvider.getSystemJavaCompiler().run(null, null, null, "-cp",
            System.getProperty("java.class.path"), "-d", folder.toString(), source.toString());
        must(failed == 0, "the code compiles");
        if (failed == 0) {
            runMain(folder);
        }
        Files.deleteIfExists(folder.resolve("ReadmeExample.class"));
        Files.delete(source);
        Files.delete(folder);
    }

    private static void runMain(Path folder) throws Exception {
        try (java.net.URLClassLoader loader = new java.net.URLClassLoader(
                new java.net.URL[] {folder.toUri().toURL()}, ReadmeTest.class.getClassLoader())) {
            loader.loadClass("ReadmeExample").getMethod("main", String[].class).invoke(null, (Object) new String[0]);
        }
    }

    private static void callsAreNamed(String page) {
        for (Method method : MinuteBehind.class.getDeclaredMethods()) {
            if (Modifier.isPublic(method.getModifiers())) {
                must(page.contains("`" + method.getName() + "`"), "the call " + method.getName() + " is named");
            }
        }
    }

    private static void testsAreNamed(String page, Path root) throws IOException {
        Set<String> named = new TreeSet<>();
        Matcher name = Pattern.compile("`(\\w+Test)`").matcher(page);
        while (name.find()) {
            named.add(name.group(1));
        }
        Set<String> there = new TreeSet<>();
        try (Stream<Path> files = Files.list(root.resolve("src/test/java"))) {
            files.map(file -> file.getFileName().toString()).filter(file -> file.endsWith("Test.java"))
                .forEach(file -> there.add(file.replace(".java", "")));
        }
        must(named.equals(there), "the tests are " + there);
    }
}
