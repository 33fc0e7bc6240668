import java.io.IOException;
import java.lang.reflect.Constructor;
import java.lang.reflect.Field;
import java.lang.reflect.Member;
import java.lang.reflect.Method;
import java.lang.reflect.Modifier;
import java.nio.file.Files;
import java.nio.file.Path;
import java.util.Arrays;
import java.util.HashSet;
import java.util.Set;
import java.util.TreeSet;
import java.util.regex.Matcher;
import java.util.regex.Pattern;

/** The class has the document's face and no more, and keeps to what can be seen of the language's rules. */
public final class FaceTest {
    private static final Path DOC = Path.of("../shared/DOC.md");
    private static final Path SOURCE = Path.of("src/main/java/FarthestHeir.java");

    public static void main(String[] args) throws IOException {
        Set<String> promised = promisedMethods();
        Set<String> found = new TreeSet<>();
        Set<String> publicNames = new HashSet<>();
        for (Method m : FarthestHeir.class.getDeclaredMethods()) {
            if (Modifier.isPublic(m.getModifiers())) {
                found.add(shape(m));
                publicNames.add(m.getName());
            }
        }
        same("methods", found, promised);
        Checks.due("promised methods", promised.size(), 41);
        privateBesides(publicNames);
        for (Class<?> inside : FarthestHeir.class.getDeclaredClasses()) {
            holds(inside + " is static", Modifier.isStatic(inside.getModifiers()) || inside.isInterface());
            for (Method m : inside.getDeclaredMethods()) {
                holds(m + " bears no name of the face", !publicNames.contains(m.getName()));
            }
            holds(inside + " has some twenty fields", inside.getDeclaredFields().length <= 30);
        }
        holds("some twelve classes", FarthestHeir.class.getDeclaredClasses().length <= 12);
        words();
        library();
        Checks.end();
    }

    private static void holds(String what, boolean so) {
        Checks.due(what, so ? 1 : 0, 1);
    }

    private static void same(String what, Set<String> got, Set<String> want) {
        holds(what + " " + got + " as promised " + want, got.equals(want));
    }

    private static void privateBesides(Set<String> publicNames) {
        holds("public and final", Modifier.isPublic(FarthestHeir.class.getModifiers())
                && Modifier.isFinal(FarthestHeir.class.getModifiers()));
        Constructor<?>[] made = FarthestHeir.class.getDeclaredConstructors();
        holds("one constructor", made.length == 1 && Modifier.isPublic(made[0].getModifiers())
                && made[0].getParameterCount() == 0);
        for (Field f : FarthestHeir.class.getDeclaredFields()) {
            holds(f + " is private", f.getName().equals("NONE") || isPrivate(f));
        }
        for (Method m : FarthestHeir.class.getDeclaredMethods()) {
            holds(m + " is private", Modifier.isPublic(m.getModifiers()) || isPrivate(m));
            holds(m + " bears no name of the face", !isPrivate(m) || !publicNames.contains(m.getName()));
        }
    }

    private static boolean isPrivate(Member m) {
        return Modifier.isPrivate(m.getModifiers());
    }

    private static String shape(Method m) {
        StringBuilder text = new StringBuilder(m.getReturnType() + " " + m.getName());
        for (Class<?> c : m.getParameterTypes()) {
            text.append(' ').append(c);
        }
        Arrays.stream(m.getExceptionTypes()).map(Class::getSimpleName).sorted().forEach(e -> text.append(' ').append(e));
        return text.toString();
    }

    /** The lines of 'The public face', in the same shape. */
    private static Set<String> promisedMethods() throws IOException {
        Set<String> all = new TreeSet<>();
        for (String line : Files.readAllLines(DOC)) {
            if (line.matches("    public (int|long) \\w+\\(.*;")) {
                StringBuilder text = new StringBuilder();
                text.append(line.replaceFirst(" *public ", "").replaceFirst("\\(.*", ""));
                String inside = line.replaceFirst(".*?\\(", "").replaceFirst("\\).*", "");
                for (String parameter : inside.isEmpty() ? new String[0] : inside.split(", ")) {
                    text.append(' ').append(parameter.split(" ")[0]);
                }
                String thrown = line.contains("throws") ? line.replaceFirst(".*throws ", "").replace(";", "") : "";
                Arrays.stream(thrown.split(", ")).filter(e -> !e.isEmpty()).sorted().forEach(e -> text.append(' ').append(e));
                all.add(text.toString());
            }
        }
        return all;
    }

    /** Of the library only what rule 4 lists, and of that only what the class needs. */
    private static void library() throws IOException {
        Set<String> listed = Set.of("Math.abs", "Math.max", "Math.min", "Integer.bitCount",
                "Integer.numberOfTrailingZeros", "Long.numberOfTrailingZeros", "System.arraycopy");
        String source = Files.readString(SOURCE);
        Matcher used = Pattern.compile("\\b(Math|Integer|Long|System|Arrays|String|Character|Boolean)\\.(\\w+)")
                .matcher(source);
        while (used.find()) {
            holds(used.group() + " is listed", listed.contains(used.group()));
        }
        Matcher imported = Pattern.compile("(?m)^import (.*);").matcher(source);
        while (imported.find()) {
            holds(imported.group(1) + " is of the face", imported.group(1).equals("java.util.NoSuchElementException"));
        }
    }

    /** Words that the language's rules leave out. */
    private static void words() throws IOException {
        String source = Files.readString(SOURCE).replaceAll("(?s)/\\*.*?\\*/", "").replaceAll("//.*", "");
        String[] none = {"catch", "finally", "try", "synchronized", "assert", "->", "::", "package", "System.out",
            "Exact", "equals", "hashCode", "toString", "Math.random", "@", "double", "float", "volatile", "native"};
        for (String word : none) {
            holds("no " + word, !source.matches("(?s).*(^|\\W)" + Pattern.quote(word) + "(\\W|$).*"));
        }
        for (char sign : Files.readString(SOURCE).toCharArray()) {
            if (sign > 126) {
                holds("a sign above 126", false);
            }
        }
        int open = 0;
        int begun = 0;
        String[] lines = source.split("\n", -1);
        for (int i = 0; i < lines.length; i++) {
            if (lines[i].matches("( {4}| {8})\\S.*\\) (throws .*)?\\{|( {4}| {8})\\S.*\\{") && lines[i].contains("(")) {
                begun = i;
            }
            if (lines[i].matches(" {4}}| {8}}") && begun > open) {
                holds("a method of sixty lines at line " + (i + 1), i - begun <= 60);
                open = i;
            }
        }
    }
}
