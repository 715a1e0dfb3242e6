import java.io.IOException;
import java.lang.reflect.Method;
import java.lang.reflect.Modifier;
import java.net.URL;
import java.net.URLClassLoader;
import java.nio.charset.StandardCharsets;
import java.nio.file.Files;
import java.nio.file.Path;
import java.util.ArrayList;
import java.util.Comparator;
import java.util.List;
import java.util.regex.Matcher;
import java.util.regex.Pattern;
import java.util.stream.Stream;
import javax.tools.JavaCompiler;
import javax.tools.ToolProvider;

/**
 * Holds README.md against the class: its Java is compiled and run as one program, each call with the answer behind it,
 * so that a page that shows what is not so, or Java that is none, is found wrong.
 */
public final class ReadmeTest {
    private static final Pattern BLOCK = Pattern.compile("(?s)```java\n(.*?)```");
    private static final Pattern CALL = Pattern.compile("x\\.(\\w+)\\([^;]*\\);.*");
    private static final Pattern SHOWN = Pattern.compile("(x\\.\\w+\\([^;]*\\)); +// (-?\\d+)(, .*)?");
    private static final Pattern FED = Pattern.compile("x\\.feed\\(([^)]*)\\);.*: \"(.*)\"");

    private static int asked;
    private static int wrong;

    private ReadmeTest() {
    }

    /** What the page's program calls with each answer. */
    public static void is(String call, int got, int shown) {
        asked++;
        if (got != shown) {
            say(call + " answered " + got + ", README.md shows " + shown);
        }
    }

    private static void say(String what) {
        wrong++;
        System.out.println("ReadmeTest: " + what);
    }

    public static void main(String[] args) throws Exception {
        String page = Files.readString(Path.of("README.md"), StandardCharsets.UTF_8);
        run(program(page));
        showsEachCall(page);
        namesEachTest(page);
        if (asked == 0) {
            say("README.md shows no answers");
        }
        System.out.println("ReadmeTest: " + asked + " answers, " + wrong + " wrong");
        System.exit(wrong == 0 ? 0 : 1);
    }

    /** One block is a method, the others are rows of one run. */
    private static String program(String page) {
        StringBuilder methods = new StringBuilder();
        StringBuilder rows = new StringBuilder();
        for (Matcher block = BLOCK.matcher(page); block.find();) {
            if (block.group(1).startsWith("static ")) {
                methods.append(block.group(1));
            } else {
                for (String line : block.group(1).split("\n")) {
                    rows.append(row(line)).append('\n');
                }
            }
        }
        return "public final class Shown {\n" + methods + "public static void run() {\n" + rows + "}\n}\n";
    }

    private static String row(String line) {
        Matcher fed = FED.matcher(line);
        if (fed.matches()) {
            feedsWhatItSays(fed.group(1), fed.group(2));
        }
        Matcher shown = SHOWN.matcher(line);
        if (shown.matches()) {
            return "ReadmeTest.is(\"" + shown.group(1) + "\", " + shown.group(1) + ", " + shown.group(2) + ");";
        }
        if (CALL.matcher(line).matches()) {
            say("no answer is shown: " + line);
        }
        return line;
    }

    private static void feedsWhatItSays(String numbers, String text) {
        StringBuilder bytes = new StringBuilder();
        for (String number : numbers.split(", ")) {
            int four = Integer.decode(number);
            for (int shift = 24; shift >= 0; shift -= 8) {
                bytes.append((char) (four >>> shift & 255));
            }
        }
        if (!bytes.toString().equals(text)) {
            say("feed brings \"" + bytes + "\", README.md says \"" + text + "\"");
        }
    }

    private static void run(String program) throws Exception {
        Path folder = Files.createTempDirectory("readme");
        try {
            Path source = folder.resolve("Shown.java");
            Files.writeString(source, program);
            JavaCompiler compiler = ToolProvider.getSystemJavaCompiler();
            if (compiler.run(null, null, null, "-cp", System.getProperty("java.class.path"), "-d", folder.toString(),
                    source.toString()) != 0) {
                say("the Java of README.md does not compile");
                return;
            }
            try (URLClassLoader loader = new URLClassLoader(new URL[] {folder.toUri().toURL()})) {
                loader.loadClass("Shown").getMethod("run").invoke(null);
            }
        } finally {
            remove(folder);
        }
    }

    private static void remove(Path folder) throws IOException {
        List<Path> all = new ArrayList<>();
        try (Stream<Path> files = Files.walk(folder)) {
            files.sorted(Comparator.reverseOrder()).forEach(all::add);
        }
        for (Path file : all) {
            Files.delete(file);
        }
    }

    private static void showsEachCall(String page) {
        for (Method method : LatestCoat.class.getDeclaredMethods()) {
            if (Modifier.isPublic(method.getModifiers()) && !page.contains("\nx." + method.getName() + "(")) {
                say("README.md shows no call of " + method.getName());
            }
        }
    }

    private static void namesEachTest(String page) throws IOException {
        try (Stream<Path> files = Files.list(Path.of("src/test/java"))) {
            files.map(file -> file.getFileName().toString()).filter(name -> name.endsWith("Test.java")).sorted().forEach(name -> {
                String test = name.substring(0, name.length() - ".java".length());
                if (!page.contains("`" + test + "`")) {
                    say("README.md does not name " + test);
                }
            });
        }
    }
}
