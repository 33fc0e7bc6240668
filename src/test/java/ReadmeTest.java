import java.io.IOException;
import java.lang.reflect.Method;
import java.nio.file.Files;
import java.nio.file.Path;
import java.util.Arrays;
import java.util.regex.Matcher;
import java.util.regex.Pattern;

/** The calls that README.md shows answer what it says, and it names every call of the face. */
public final class ReadmeTest {
    private static final Pattern CALL = Pattern.compile("(?m)^h\\.(\\w+)\\((.*?)\\); *// (-?\\d+)");

    public static void main(String[] args) throws IOException, ReflectiveOperationException {
        String readme = Files.readString(Path.of("README.md"));
        FarthestHeir h = new FarthestHeir();
        int shown = 0;
        Matcher m = CALL.matcher(readme);
        while (m.find()) {
            Object[] with = Arrays.stream(m.group(2).split(", ")).filter(x -> !x.isEmpty()).map(Integer::decode).toArray();
            Checks.due(m.group(), ((Number) named(m.group(1)).invoke(h, with)).longValue(), Long.parseLong(m.group(3)));
            shown++;
        }
        Checks.due("every line of the example is a call with its answer", shown, readme.split("\nh\\.", -1).length - 1);
        Checks.due("there is an example", shown > 10 ? 1 : 0, 1);
        for (Method call : FarthestHeir.class.getDeclaredMethods()) {
            boolean open = java.lang.reflect.Modifier.isPublic(call.getModifiers());
            boolean told = Pattern.compile("(?m)^\\|[^|]*\\b" + call.getName() + "\\b").matcher(readme).find();
            Checks.due("README.md names " + call.getName(), !open || told ? 1 : 0, 1);
        }
        Checks.end();
    }

    private static Method named(String name) {
        return Arrays.stream(FarthestHeir.class.getDeclaredMethods())
                .filter(m -> m.getName().equals(name)).findFirst().orElseThrow();
    }
}
