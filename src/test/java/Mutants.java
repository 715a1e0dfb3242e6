import java.io.ByteArrayOutputStream;
import java.io.IOException;
import java.io.OutputStream;
import java.io.StringWriter;
import java.net.URI;
import java.nio.charset.StandardCharsets;
import java.nio.file.Files;
import java.nio.file.Path;
import java.util.ArrayList;
import java.util.Arrays;
import java.util.HashMap;
import java.util.List;
import java.util.Map;
import java.util.TreeSet;
import java.util.concurrent.ExecutorService;
import java.util.concurrent.Executors;
import java.util.concurrent.TimeUnit;
import java.util.regex.Matcher;
import java.util.regex.Pattern;
import javax.tools.FileObject;
import javax.tools.ForwardingJavaFileManager;
import javax.tools.JavaCompiler;
import javax.tools.JavaFileManager;
import javax.tools.JavaFileObject;
import javax.tools.SimpleJavaFileObject;
import javax.tools.ToolProvider;

/**
 * No test, but a look at the tests by sentences: the class is spoilt in one place at a time, and what is printed are the
 * spoilt classes that no sentence found wrong, to be read by hand, and the sentences that found none of them wrong.
 * Takes minutes, so .ci/run leaves it out: java -cp DIR Mutants DIR, where DIR has the compiled tests.
 */
public final class Mutants {
    private static final String[] TESTS = {"StreetSentencesTest", "RuleSentencesTest", "ActSentencesTest", "AskSentencesTest",
        "LogSentencesTest"};
    private static final String[][] SIGNS = {{"<=", "<", ">"}, {">=", ">", "<"}, {"==", "!="}, {"!=", "=="}, {"<", "<=", ">="},
        {">", ">=", "<="}, {"&&", "||"}, {"||", "&&"}, {"+", "-"}, {"-", "+"}, {"*", "+"}, {"/", "*"}, {"%", "/"}, {">>>", "<<"},
        {">>", "<<"}, {"<<", ">>"}, {"&", "|"}, {"|", "&"}, {"+=", "-="}, {"-=", "+="}, {"|=", "&="}};
    private static final String[][] NAMES = {{"true", "false"}, {"false", "true"}, {"min", "max"}, {"max", "min"}, {"MISSING", "NONE"},
        {"NONE", "MISSING"}, {"NO_RULED", "0"}, {"NO_GAME", "0"}, {"NO_WORTH", "0"}, {"BAD_NUMBER", "CANT_STAND"},
        {"TOO_DEEP", "CANT_STAND"}, {"VALUE_TOO_MANY", "CANT_STAND"}, {"CLAUSE_TOO_MANY", "CANT_STAND"}, {"CANT_STAND", "BAD_NUMBER"}};
    private static final int SECONDS = 30;

    private final String source;
    /** The source with its comments and texts blanked, so that nothing in them is spoilt. */
    private final String code;
    private final Map<String, byte[]> tests = new HashMap<>();
    private final List<int[]> places = new ArrayList<>();
    private final List<String> others = new ArrayList<>();
    private final List<String> missed = new ArrayList<>();
    private final TreeSet<String> awake = new TreeSet<>();
    private int notCompiled;
    private int endless;

    private Mutants(String source, Path compiled) throws IOException {
        this.source = source;
        code = Pattern.compile("(?s)/\\*.*?\\*/|//[^\n]*|\"[^\"\n]*\"|'[^'\n]*'").matcher(source)
            .replaceAll(found -> found.group().replaceAll("[^\n]", " "));
        try (var files = Files.list(compiled)) {
            for (Path file : (Iterable<Path>) files::iterator) {
                String name = file.getFileName().toString();
                if (name.endsWith(".class") && !name.startsWith("LatestCoat")) {
                    tests.put(name.substring(0, name.length() - 6), Files.readAllBytes(file));
                }
            }
        }
    }

    public static void main(String[] args) throws Exception {
        Mutants mutants = new Mutants(Files.readString(Path.of("src/main/java/LatestCoat.java"), StandardCharsets.ISO_8859_1),
            Path.of(args[0]));
        mutants.spoil();
        ExecutorService workers = Executors.newFixedThreadPool(Runtime.getRuntime().availableProcessors());
        for (int k = 0; k < mutants.places.size(); k++) {
            int mutant = k;
            workers.submit(() -> mutants.look(mutant));
        }
        workers.shutdown();
        workers.awaitTermination(1, TimeUnit.HOURS);
        mutants.tell();
        System.exit(0);
    }

    private void add(int from, int to, String other) {
        places.add(new int[] {from, to});
        others.add(other);
    }

    private void spoil() {
        for (Matcher m = matcher("(?<![\\w.])(\\d+)L?(?![\\w.])"); m.find();) {
            long number = Long.parseLong(m.group(1));
            add(m.start(1), m.end(1), "" + (number + 1));
            add(m.start(1), m.end(1), number > 0 ? "" + (number - 1) : "-1");
        }
        for (String[] sign : SIGNS) {
            for (Matcher m = matcher(" (" + Pattern.quote(sign[0]) + ") "); m.find();) {
                for (int k = 1; k < sign.length; k++) {
                    add(m.start(1), m.end(1), sign[k]);
                }
            }
        }
        for (String[] name : NAMES) {
            for (Matcher m = matcher("\\b" + name[0] + "\\b(?! =)"); m.find();) {
                add(m.start(), m.end(), name[1]);
            }
        }
        for (Matcher m = matcher("!(?=[\\w(])"); m.find();) {
            add(m.start(), m.end(), "");
        }
        // a statement that is no declaration is left out
        for (Matcher m = matcher("(?m)^ +((?!return|final|private|static|break)[\\w.\\[\\]() +-]+( [+|-]?= [^;\n]*|\\([^;\n]*\\)|\\+\\+|--);)$"); m.find();) {
            if (!m.group(1).matches("\\w+(\\[\\])* \\w+ = .*")) {
                add(m.start(1), m.end(1), ";");
            }
        }
    }

    private Matcher matcher(String pattern) {
        return Pattern.compile(pattern).matcher(code);
    }

    @SuppressWarnings({"deprecation", "removal"})
    private void look(int mutant) {
        try {
            int[] place = places.get(mutant);
            Map<String, byte[]> classes = compile(source.substring(0, place[0]) + others.get(mutant) + source.substring(place[1]));
            if (classes.isEmpty()) {
                leaveOut(false);
                return;
            }
            classes.putAll(tests);
            TreeSet<String> failed = new TreeSet<>();
            Thread thread = new Thread(null, () -> run(classes, failed), "mutant " + mutant, 1 << 26);
            thread.setDaemon(true);
            thread.start();
            thread.join(SECONDS * 1000L);
            if (thread.isAlive()) {
                thread.stop();
                leaveOut(true);
                return;
            }
            note(mutant, failed);
        } catch (IOException | InterruptedException e) {
            throw new IllegalStateException(e);
        }
    }

    private static void run(Map<String, byte[]> classes, TreeSet<String> failed) {
        try {
            ClassLoader loader = new ClassLoader(ClassLoader.getPlatformClassLoader()) {
                @Override
                protected Class<?> findClass(String name) throws ClassNotFoundException {
                    byte[] bytes = classes.get(name);
                    if (bytes == null) {
                        throw new ClassNotFoundException(name);
                    }
                    return defineClass(name, bytes, 0, bytes.length);
                }
            };
            Class<?> sentences = loader.loadClass("Sentences");
            var constructor = sentences.getDeclaredConstructor(boolean.class);
            constructor.setAccessible(true);
            Object t = constructor.newInstance(false);
            for (String test : TESTS) {
                var all = loader.loadClass(test).getDeclaredMethod("all", sentences);
                all.setAccessible(true);
                all.invoke(null, t);
            }
            var field = sentences.getDeclaredField("failed");
            field.setAccessible(true);
            for (Object quote : (List<?>) field.get(t)) {
                failed.add(quote.toString());
            }
        } catch (ReflectiveOperationException e) {
            failed.add("" + e.getCause());
        }
    }

    private synchronized void leaveOut(boolean isEndless) {
        endless += isEndless ? 1 : 0;
        notCompiled += isEndless ? 0 : 1;
    }

    private synchronized void note(int mutant, TreeSet<String> failed) {
        awake.addAll(failed);
        if (failed.isEmpty()) {
            int[] place = places.get(mutant);
            int line = (int) source.substring(0, place[0]).chars().filter(c -> c == '\n').count() + 1;
            int begin = source.lastIndexOf('\n', place[0]) + 1;
            int end = source.indexOf('\n', place[1]);
            missed.add(line + ": " + source.substring(begin, place[0]).trim() + " {" + source.substring(place[0], place[1]) + " -> "
                + others.get(mutant) + "} " + source.substring(place[1], end));
        }
    }

    private void tell() {
        missed.sort((a, b) -> Integer.compare(Integer.parseInt(a.split(":")[0]), Integer.parseInt(b.split(":")[0])));
        missed.forEach(System.out::println);
        Sentences t = new Sentences(false);
        StreetSentencesTest.all(t);
        RuleSentencesTest.all(t);
        ActSentencesTest.all(t);
        AskSentencesTest.all(t);
        LogSentencesTest.all(t);
        for (Sentences.Quote quote : t.quotes) {
            if (!awake.contains(quote.toString())) {
                System.out.println("never wrong: " + quote);
            }
        }
        System.out.println(places.size() + " mutants, " + notCompiled + " that do not compile, " + endless + " that do not end, "
            + missed.size() + " that no sentence found wrong");
    }

    /** The classes of a source, or none if it does not compile. */
    private static Map<String, byte[]> compile(String text) throws IOException {
        JavaCompiler compiler = ToolProvider.getSystemJavaCompiler();
        Map<String, ByteArrayOutputStream> made = new HashMap<>();
        JavaFileObject file = new SimpleJavaFileObject(URI.create("mem:///LatestCoat.java"), JavaFileObject.Kind.SOURCE) {
            @Override
            public CharSequence getCharContent(boolean ignore) {
                return text;
            }
        };
        try (JavaFileManager manager = new ForwardingJavaFileManager<JavaFileManager>(compiler.getStandardFileManager(null, null, null)) {
            @Override
            public JavaFileObject getJavaFileForOutput(Location at, String name, JavaFileObject.Kind kind, FileObject near) {
                return new SimpleJavaFileObject(URI.create("mem:///" + name + ".class"), kind) {
                    @Override
                    public OutputStream openOutputStream() {
                        return made.computeIfAbsent(name, n -> new ByteArrayOutputStream());
                    }
                };
            }
        }) {
            boolean isMade = compiler.getTask(new StringWriter(), manager, problem -> { }, Arrays.asList("-proc:none"), null,
                Arrays.asList(file)).call();
            Map<String, byte[]> classes = new HashMap<>();
            if (isMade) {
                made.forEach((name, bytes) -> classes.put(name, bytes.toByteArray()));
            }
            return classes;
        }
    }
}
