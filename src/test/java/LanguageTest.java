import java.io.IOException;
import java.lang.reflect.Constructor;
import java.lang.reflect.Field;
import java.lang.reflect.Method;
import java.lang.reflect.Modifier;
import java.nio.charset.StandardCharsets;
import java.nio.file.Files;
import java.nio.file.Path;
import java.util.ArrayList;
import java.util.List;
import java.util.TreeSet;
import java.util.regex.Matcher;
import java.util.regex.Pattern;

/** What of LANGUAGE.md and of the public face can be seen by a look at the source and the class. */
public final class LanguageTest {
    private static final List<String> FACE = List.of("feed/5", "end/1", "street/0", "rule/0", "force/1", "cell/2", "coat/3",
        "thing/2", "painter/2", "rain/1", "hour/0", "paint/2", "scrape/1", "vote/1", "undo/0", "ahead/3", "rents/2",
        "least/4", "fewest/3", "when/0", "game/5", "share/3", "then/2", "byPart/2", "one/0", "log/3", "ruled/1", "look/2",
        "worth/3", "seed/1", "years/3", "count/1", "image/1", "back/1");
    private static final List<String> FORBIDDEN = List.of("\\bthrows?\\b", "\\btry\\b", "\\bcatch\\b", "\\bsynchronized\\b",
        "\\bassert\\b", "->", "::", "\\bextends\\b", "\\bprotected\\b", "\\bvolatile\\b", "\\bnative\\b", "Exact\\b",
        "\\bSystem\\.(?!arraycopy)", "\\bObject\\b", "\\.hashCode\\b", "\\.toString\\b", "static \\{", "\"\\s*\\+", "\\+\\s*\"",
        "\\bvar\\b", "\\bRandom\\b", "^package\\b");
    private static int wrong;

    private LanguageTest() {
    }

    private static void check(boolean holds, String what) {
        if (!holds) {
            wrong++;
            System.out.println("LanguageTest: " + what);
        }
    }

    public static void main(String[] args) throws IOException {
        Path file = Path.of("src/main/java/LatestCoat.java");
        String source = Files.readString(file, StandardCharsets.ISO_8859_1);
        face();
        staticFields();
        text(source);
        methods(source);
        System.out.println("LanguageTest: " + wrong + " wrong");
        System.exit(wrong == 0 ? 0 : 1);
    }

    private static void face() {
        TreeSet<String> open = new TreeSet<>();
        TreeSet<String> hidden = new TreeSet<>();
        for (Method m : LatestCoat.class.getDeclaredMethods()) {
            if (Modifier.isPrivate(m.getModifiers())) {
                hidden.add(m.getName());
            } else {
                open.add(m.getName() + "/" + m.getParameterCount());
                check(Modifier.isPublic(m.getModifiers()) && m.getReturnType() == int.class, "face of " + m);
            }
        }
        check(open.equals(new TreeSet<>(FACE)), "the public methods are " + open);
        for (String name : FACE) {
            check(!hidden.contains(name.substring(0, name.indexOf('/'))), "a private method is named " + name);
        }
        for (Field f : LatestCoat.class.getDeclaredFields()) {
            check(Modifier.isPrivate(f.getModifiers()) || f.getName().equals("NONE"), "a field is open: " + f);
        }
        Constructor<?>[] constructors = LatestCoat.class.getDeclaredConstructors();
        check(constructors.length == 1 && constructors[0].getParameterCount() == 0, "the constructor");
        check(Modifier.isFinal(LatestCoat.class.getModifiers()), "the class is final");
        check(LatestCoat.NONE == -1, "NONE");
    }

    private static void staticFields() {
        List<Class<?>> classes = new ArrayList<>(List.of(LatestCoat.class.getDeclaredClasses()));
        classes.add(LatestCoat.class);
        check(classes.size() <= 12, "classes: " + classes.size());
        for (Class<?> c : classes) {
            check(c == LatestCoat.class || Modifier.isStatic(c.getModifiers()), "not static: " + c);
            int own = 0;
            for (Field f : c.getDeclaredFields()) {
                if (Modifier.isStatic(f.getModifiers())) {
                    check(Modifier.isFinal(f.getModifiers()), "static and not final: " + f);
                    check(f.getType().isPrimitive() || f.getType() == String.class, "static of another type: " + f);
                } else {
                    own++;
                }
            }
            check(own <= 20, "fields of " + c + ": " + own);
            for (Method m : c.getDeclaredMethods()) {
                check(m.getParameterCount() <= 7, "parameters of " + m);
            }
        }
    }

    private static void text(String source) {
        for (int k = 0; k < source.length(); k++) {
            if (source.charAt(k) > 126) {
                check(false, "a sign beyond 126 at " + k);
            }
        }
        String code = source.replaceAll("(?s)/\\*.*?\\*/", "").replaceAll("//[^\n]*", "").replaceAll("\"[^\"\n]*\"", "\"\"");
        for (String forbidden : FORBIDDEN) {
            Matcher found = Pattern.compile(forbidden, Pattern.MULTILINE).matcher(code);
            check(!found.find(), "forbidden: " + forbidden);
        }
        Matcher imports = Pattern.compile("^import (.*);", Pattern.MULTILINE).matcher(code);
        while (imports.find()) {
            check(List.of("java.util.Arrays", "java.util.List", "java.util.ArrayList").contains(imports.group(1)),
                "import of " + imports.group(1));
        }
    }

    /** A method's lines, from its head to its brace, by the indents that the source keeps to. */
    private static void methods(String source) {
        String[] lines = source.split("\n");
        for (int k = 0; k < lines.length; k++) {
            Matcher head = Pattern.compile("^( +)[a-z].*\\) \\{$").matcher(lines[k]);
            if (head.find() && (head.group(1).length() == 4 || head.group(1).length() == 8)) {
                int to = k;
                while (to < lines.length && !lines[to].equals(head.group(1) + "}")) {
                    to++;
                }
                check(to - k + 1 <= 60, "a method of " + (to - k + 1) + " lines: " + lines[k].trim());
            }
        }
    }
}
