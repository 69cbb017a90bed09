import java.io.IOException;
import java.lang.reflect.Constructor;
import java.lang.reflect.Field;
import java.lang.reflect.Method;
import java.lang.reflect.Modifier;
import java.nio.charset.StandardCharsets;
import java.nio.file.Files;
import java.nio.file.Path;
import java.util.Arrays;
import java.util.List;
import java.util.Set;
import java.util.TreeSet;
import java.util.regex.Matcher;
import java.util.regex.Pattern;

/** The face of the document, and of the rules of LANGUAGE.md those that can be seen without understanding. */
final class LanguageTest {
    private static final Path SOURCE = Path.of("src/main/java/RoseLathe.java");
    private static final String FACE = "about/2 alike/2 at/2 closes/0 count/1 lift/3 maker/2 makers/0 meets/4 name/2"
        + " off/0 overlaid/7 place/2 print/1 rosette/2 see/3 setting/6 shown/0 slip/2 thin/2 told/1 wall/1";
    private static final Check CHECK = new Check();

    private static void face() {
        CHECK.about("the face");
        CHECK.holds("the class is public and final",
            Modifier.isPublic(RoseLathe.class.getModifiers()) && Modifier.isFinal(RoseLathe.class.getModifiers()));
        Set<String> methods = new TreeSet<>();
        for (Method m : RoseLathe.class.getDeclaredMethods()) {
            if (!Modifier.isPrivate(m.getModifiers())) {
                methods.add(m.getName() + "/" + m.getParameterCount());
                CHECK.holds(m + " is as in the document", Modifier.isPublic(m.getModifiers())
                    && !Modifier.isStatic(m.getModifiers()) && m.getReturnType() == int.class
                    && Arrays.stream(m.getParameterTypes()).allMatch(t -> t == int.class));
            }
        }
        CHECK.holds("the methods are those of the document: " + methods, String.join(" ", methods).equals(FACE));
        Constructor<?>[] made = RoseLathe.class.getDeclaredConstructors();
        CHECK.holds("one public constructor without parameters",
            made.length == 1 && Modifier.isPublic(made[0].getModifiers()) && made[0].getParameterCount() == 0);
        for (Field f : RoseLathe.class.getDeclaredFields()) {
            boolean told = List.of("BAD", "NO", "NONE").contains(f.getName());
            CHECK.holds(f + " is public only if told", told == !Modifier.isPrivate(f.getModifiers()));
        }
        CHECK.due("BAD", RoseLathe.BAD, -1);
        CHECK.due("NO", RoseLathe.NO, -2);
        CHECK.due("NONE", RoseLathe.NONE, -4);
    }

    private static void classes() {
        CHECK.about("the classes");
        Class<?>[] inside = RoseLathe.class.getDeclaredClasses();
        CHECK.holds("at most 12 classes", inside.length < 12);
        for (Class<?> c : inside) {
            int how = c.getModifiers();
            CHECK.holds(c + " is static and closed",
                Modifier.isStatic(how) && !Modifier.isPublic(how) && !Modifier.isProtected(how));
            members(c);
        }
        members(RoseLathe.class);
        for (Method m : RoseLathe.class.getDeclaredMethods()) {
            CHECK.holds(m + " bears no public name",
                !Modifier.isPrivate(m.getModifiers()) || !isPublicName(m.getName()));
        }
    }

    private static boolean isPublicName(String name) {
        return (" " + FACE).contains(" " + name + "/");
    }

    private static void members(Class<?> c) {
        int fields = 0;
        for (Field f : c.getDeclaredFields()) {
            boolean isStatic = Modifier.isStatic(f.getModifiers());
            fields += isStatic ? 0 : 1;
            CHECK.holds(f + " is final if static", !isStatic || Modifier.isFinal(f.getModifiers()));
        }
        CHECK.holds(c + " has at most 20 fields", fields <= 20);
        for (Method m : c.getDeclaredMethods()) {
            CHECK.holds(m + " takes at most seven", m.getParameterCount() <= 7);
            CHECK.holds(m + " was written, not made by javac", !m.isSynthetic());
            CHECK.holds(m + " bears no public name",
                c == RoseLathe.class || !isPublicName(m.getName()));
        }
    }

    private static void words() throws IOException {
        CHECK.about("the words");
        String text = Files.readString(SOURCE, StandardCharsets.UTF_8);
        CHECK.holds("signs 1 to 127 alone", text.chars().allMatch(c -> c > 0 && c < 128));
        String code = text.replaceAll("(?s)/\\*.*?\\*/", " ").replaceAll("//[^\n]*", " ");
        String banned = "throw|throws|try|catch|finally|synchronized|assert|import|package|double|float|var|goto|volatile"
            + "|transient|native|System|Math\\.\\w+Exact|equals|hashCode|toString|default\\s*->|case[^:\n]*->";
        Matcher m = Pattern.compile("\\b(" + banned + ")\\b|->|::").matcher(code);
        while (m.find()) {
            CHECK.holds("no \"" + m.group() + "\"", false);
        }
        CHECK.holds("objects are made only as fields and in constructors", madeOnlyOnce(code));
        methodLengths(code);
    }

    /** All calls share one room: every 'new' stands in a field or fills a row in the class's own constructor. */
    private static boolean madeOnlyOnce(String code) {
        return Arrays.stream(code.split("\n")).filter(line -> line.contains("new ")).allMatch(line ->
            line.contains(" private final ") || List.of("rosettes[r] = new Rosette();",
                "cells = new int[Math.max(n, 0)];").contains(line.trim()));
    }

    private static void methodLengths(String code) {
        Pattern start = Pattern.compile("^( {4}| {8})[a-zA-Z].*\\) \\{$");
        List<String> lines = code.lines().toList();
        int found = 0;
        for (int i = 0; i < lines.size(); i++) {
            Matcher m = start.matcher(lines.get(i));
            if (m.matches() && !m.group().trim().matches("(if|for|while|switch) .*")) {
                int length = lines.subList(i, lines.size()).indexOf(m.group(1) + "}");
                CHECK.holds("at most 60 lines: " + m.group().trim(), length > 0 && length <= 60);
                found++;
            }
        }
        CHECK.holds("methods were found", found > 60);
    }

    public static void main(String[] args) throws IOException {
        face();
        classes();
        words();
        CHECK.end("LanguageTest");
    }
}
