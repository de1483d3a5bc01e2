import java.io.File;
import java.io.IOException;
import java.lang.reflect.Method;
import java.lang.reflect.Modifier;
import java.net.URL;
import java.net.URLClassLoader;
import java.nio.file.Files;
import java.nio.file.Path;
import java.util.Comparator;
import java.util.List;
import java.util.regex.Matcher;
import java.util.regex.Pattern;
import java.util.spi.ToolProvider;
import java.util.stream.Stream;

/** README.md: its Java is compiled and run, each answer behind a call is due; it names every call and every test. */
public final class ReadmeTest {
    private static final Pattern BLOCK = Pattern.compile("```java\\n(.*?)```", Pattern.DOTALL);
    private static final Pattern ANSWERED = Pattern.compile("^(town\\.(\\w+)\\(.*\\)); +// (-?\\d+|true|false)\\b.*$");

    private static int asked;
    private static int wrong;

    public static void main(String[] args) throws Exception {
        String page = Files.readString(Path.of("README.md"));
        checkNames(page);
        ToolProvider javac = ToolProvider.findFirst("javac").orElse(null);
        if (javac == null) {
            System.out.println("this Java has no javac: the page's answers were not looked at");
        } else {
            runPage(javac, program(page));
        }
        System.out.println(asked + " answers of the page, " + wrong + " faults");
        if (wrong != 0) {
            System.exit(1);
        }
    }

    private static void checkNames(String page) {
        for (Method method : HerringShares.class.getDeclaredMethods()) {
            if (Modifier.isPublic(method.getModifiers())) {
                check(page.contains("`" + method.getName() + "`"), "the page does not name " + method.getName());
            }
        }
        File[] tests = new File("src/test/java").listFiles((place, name) -> name.endsWith("Test.java"));
        check(tests != null && tests.length > 10, "the tests were not found");
        for (File test : tests == null ? new File[0] : tests) {
            String name = test.getName().replace(".java", "");
            check(page.contains("`" + name + "`"), "the page does not name " + name);
        }
    }

    /** The page's methods as they stand, its calls in one method, with what is due. */
    private static String program(String page) {
        StringBuilder methods = new StringBuilder();
        StringBuilder calls = new StringBuilder();
        Matcher blocks = BLOCK.matcher(page);
        while (blocks.find()) {
            boolean method = blocks.group(1).startsWith("static ");
            for (String line : blocks.group(1).split("\n")) {
                (method ? methods : calls).append(method ? line : answered(line)).append('\n');
            }
        }
        check(methods.length() > 0 && asked > 0, "the page has no method, or no answers");
        return "class Page {\n" + methods + "static int wrong;\n"
                + "static void due(String call, Object want, Object got) {\n"
                + "if (!want.equals(got)) { wrong++; System.out.println(call + \" answered \" + got"
                + " + \", the page says \" + want); } }\n"
                + "public static int run() {\n" + calls + "return wrong; }\n}\n";
    }

    private static String answered(String line) {
        Matcher call = ANSWERED.matcher(line);
        if (!call.find()) {
            return line;
        }
        asked++;
        return "due(\"" + call.group(1) + "\", " + call.group(3) + ", " + call.group(1) + ");";
    }

    private static void runPage(ToolProvider javac, String program) throws Exception {
        Path place = Files.createTempDirectory("page");
        try {
            Path source = place.resolve("Page.java");
            Files.writeString(source, program);
            int failed = javac.run(System.out, System.err, "-cp", System.getProperty("java.class.path"), "-d",
                    place.toString(), source.toString());
            check(failed == 0, "the page's Java is not compiled");
            if (failed == 0) {
                wrong += wrongOnes(place);
            }
        } finally {
            remove(place);
        }
    }

    private static int wrongOnes(Path place) throws Exception {
        try (URLClassLoader loader = new URLClassLoader(new URL[] {place.toUri().toURL()})) {
            Method run = loader.loadClass("Page").getDeclaredMethod("run");
            run.setAccessible(true);
            return (Integer) run.invoke(null);
        }
    }

    private static void remove(Path place) throws IOException {
        List<Path> found;
        try (Stream<Path> paths = Files.walk(place)) {
            found = paths.sorted(Comparator.reverseOrder()).toList();
        }
        for (Path path : found) {
            Files.delete(path);
        }
    }

    private static void check(boolean fine, String what) {
        if (!fine) {
            wrong++;
            System.out.println(what);
        }
    }
}
