import java.io.ByteArrayOutputStream;
import java.io.IOException;
import java.io.PrintStream;
import java.lang.reflect.Method;
import java.lang.reflect.Modifier;
import java.net.URL;
import java.net.URLClassLoader;
import java.nio.charset.StandardCharsets;
import java.nio.file.DirectoryStream;
import java.nio.file.Files;
import java.nio.file.Path;
import java.util.ArrayList;
import java.util.Comparator;
import java.util.List;
import java.util.TreeSet;
import java.util.regex.Matcher;
import java.util.regex.Pattern;
import java.util.stream.Stream;
import javax.tools.ToolProvider;

/**
 * README.md tells what is so: its program prints what its comments say, the files that it names are
 * there, and it names every call of the class and every test.
 */
public final class ReadmeTest {
    private static final Path README = Path.of("README.md");
    private static final Path TESTS = Path.of("src/test/java");
    private static final Pattern PRINTED = Pattern.compile("// prints ([^ :\n]+)");
    private static final Pattern QUOTED = Pattern.compile("`([^`\n]+)`");

    private int right;
    private int wrong;

    public static void main(String[] args) throws Exception {
        ReadmeTest test = new ReadmeTest();
        String page = Files.readString(README, StandardCharsets.UTF_8);
        test.example(block(page, "java"));
        TreeSet<String> named = named(page.replaceAll("(?s)```.*?```", ""));
        test.calls(named);
        test.tests(named);
        test.files(named);
        System.out.println("ReadmeTest: " + test.right + " passed, " + test.wrong + " failed");
        System.exit(test.wrong == 0 ? 0 : 1);
    }

    private static String block(String page, String kind) {
        String fence = "```" + kind + "\n";
        int begin = page.indexOf(fence);
        int end = begin < 0 ? -1 : page.indexOf("```", begin + fence.length());
        return end < 0 ? "" : page.substring(begin + fence.length(), end);
    }

    private static TreeSet<String> named(String words) {
        TreeSet<String> named = new TreeSet<>();
        Matcher quotes = QUOTED.matcher(words);
        while (quotes.find()) {
            named.add(quotes.group(1));
        }
        return named;
    }

    private void example(String program) throws Exception {
        List<String> due = new ArrayList<>();
        Matcher comments = PRINTED.matcher(program);
        while (comments.find()) {
            due.add(comments.group(1));
        }
        check("the program has answers", !due.isEmpty());
        check("each print of the program has its answer", due.size() == program.split("println\\(", -1).length - 1);
        Path room = Files.createTempDirectory("readme");
        try {
            Path file = room.resolve("Example.java");
            Files.writeString(file, program, StandardCharsets.UTF_8);
            int failed = ToolProvider.getSystemJavaCompiler().run(null, null, null, "-d", room.toString(),
                "-cp", System.getProperty("java.class.path"), file.toString());
            check("the program compiles", failed == 0);
            List<String> printed = failed == 0 ? printed(room) : List.of();
            check("the program prints " + due + ": " + printed, printed.equals(due));
        } finally {
            remove(room);
        }
    }

    private static List<String> printed(Path room) throws Exception {
        PrintStream before = System.out;
        ByteArrayOutputStream bytes = new ByteArrayOutputStream();
        try (URLClassLoader loader = new URLClassLoader(new URL[] {room.toUri().toURL()})) {
            System.setOut(new PrintStream(bytes, true, StandardCharsets.UTF_8));
            loader.loadClass("Example").getMethod("main", String[].class).invoke(null, (Object) new String[0]);
        } finally {
            System.setOut(before);
        }
        return bytes.toString(StandardCharsets.UTF_8).lines().toList();
    }

    private static void remove(Path room) throws IOException {
        try (Stream<Path> all = Files.walk(room)) {
            for (Path one : all.sorted(Comparator.reverseOrder()).toList()) {
                Files.delete(one);
            }
        }
    }

    private void calls(TreeSet<String> named) {
        for (Method one : RobotAisles.class.getDeclaredMethods()) {
            if (Modifier.isPublic(one.getModifiers())) {
                check("the call " + one.getName() + " is named", named.contains(one.getName()));
            }
        }
    }

    private void tests(TreeSet<String> named) throws IOException {
        try (DirectoryStream<Path> found = Files.newDirectoryStream(TESTS, "*Test.java")) {
            for (Path one : found) {
                String name = one.getFileName().toString().replace(".java", "");
                check("the test " + name + " is named", named.contains(name));
            }
        }
        for (String one : named) {
            check("the test " + one + " is there", !one.matches("\\w+Test") || Files.exists(TESTS.resolve(one + ".java")));
        }
    }

    private void files(TreeSet<String> named) throws IOException {
        for (String one : named) {
            if (!one.matches("(src|\\.ci|\\.\\./shared)/\\S+")) {
                continue;
            }
            Path path = Path.of(one);
            if (!one.contains("*")) {
                check(one + " is there", Files.exists(path));
                continue;
            }
            try (DirectoryStream<Path> found = Files.newDirectoryStream(path.getParent(), path.getFileName().toString())) {
                check(one + " is there", found.iterator().hasNext());
            }
        }
    }

    private void check(String what, boolean holds) {
        if (holds) {
            right++;
        } else {
            wrong++;
            System.out.println("not so: " + what);
        }
    }
}
