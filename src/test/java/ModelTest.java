import java.lang.reflect.InvocationTargetException;
import java.lang.reflect.Method;
import java.util.Arrays;
import java.util.HashMap;
import java.util.List;
import java.util.Map;
import java.util.Random;

/** Runs of random calls on the class and on a plain model of the document: both must answer alike (1 to 42). */
public final class ModelTest {
    private static final int CALLS = 512;
    private static final List<String> TEXTS = List.of("feed", "dukedom", "law", "work", "book");
    private static final List<String> CHANGING = List.of("work", "undo", "restore");
    /** The most that each parameter may be, by the call and its place. */
    private static final Map<String, int[]> MOST = new HashMap<>();

    static {
        MOST.put("told", new int[] {10});
        MOST.put("person", new int[] {7, 9});
        MOST.put("far", new int[] {7, 7});
        MOST.put("would", new int[] {9, 9, 9, 3, 999, 900, 900, 8});
        MOST.put("ahead", new int[] {99, 2});
        MOST.put("after", new int[] {8});
        MOST.put("feint", new int[] {7, 1});
        MOST.put("ring", new int[] {7, 1});
        MOST.put("mate", new int[] {7});
        MOST.put("row", new int[] {99});
        MOST.put("rowed", new int[] {99, 8});
        MOST.put("chance", new int[] {12, 13, 16, 1});
        MOST.put("feigning", new int[] {99, 99, 2});
        MOST.put("land", new int[] {7, 255, 999});
        MOST.put("beyond", new int[] {7, 99});
        MOST.put("spread", new int[] {2, 1});
        MOST.put("masks", new int[] {7});
        MOST.put("rank", new int[] {7});
        MOST.put("mild", new int[] {99});
        MOST.put("unlike", new int[] {7});
        MOST.put("century", new int[] {Integer.MAX_VALUE, 96, 16, 3});
        MOST.put("span", new int[] {Integer.MAX_VALUE, 20, 96, 16, 2, 7});
        MOST.put("status", new int[] {2});
        MOST.put("count", new int[] {3});
    }

    private final Random random;
    private final RandomTexts texts;
    private final FarthestHeir heir = new FarthestHeir();
    private final Model model = new Model();
    private final StringBuilder told = new StringBuilder();
    private int calls = 0;

    private ModelTest(long seed) {
        random = new Random(seed);
        texts = new RandomTexts(random);
    }

    /** How many runs, and the first seed, may be told. */
    public static void main(String[] args) throws IllegalAccessException {
        int runs = args.length > 0 ? Integer.parseInt(args[0]) : 150;
        int first = args.length > 1 ? Integer.parseInt(args[1]) : 1;
        Method[] face = Arrays.stream(FarthestHeir.class.getDeclaredMethods())
                .filter(m -> java.lang.reflect.Modifier.isPublic(m.getModifiers()))
                .sorted((a, b) -> a.getName().compareTo(b.getName())).toArray(Method[]::new);
        for (int seed = first; seed < first + runs; seed++) {
            new ModelTest(seed).run(face);
        }
        Checks.end();
    }

    private void run(Method[] face) throws IllegalAccessException {
        boolean right = text(face, "dukedom", texts.dukedom());
        // Now and then up to YEAR 900 or so, which few runs would come to by themselves.
        for (int works = random.nextInt(8) == 0 ? 4 + random.nextInt(3) : 0; right && works > 0; works--) {
            right = text(face, "work", "again 60[year;year;year;];");
        }
        while (right && calls < CALLS) {
            Method m = face[random.nextInt(face.length)];
            right = TEXTS.contains(m.getName()) ? anyText(face, m.getName()) : same(m, arguments(m));
            right = right && looksAlike(face, m.getName());
        }
    }

    /** Behind what changes the state some of it is looked at. */
    private boolean looksAlike(Method[] face, String behind) throws IllegalAccessException {
        boolean right = true;
        for (int i = 0; right && i < 4 && CHANGING.contains(behind); i++) {
            Method m = named(face, i < 2 ? "told" : "person");
            right = same(m, arguments(m));
        }
        return right;
    }

    private boolean anyText(Method[] face, String name) throws IllegalAccessException {
        switch (name) {
            case "dukedom": return random.nextInt(6) > 0 || text(face, name, texts.dukedom());
            case "law": return text(face, name, texts.law());
            case "book": return text(face, name, texts.book(heir));
            case "work": return text(face, name, random.nextInt(5) > 0 ? texts.work() : "again 60[year;year;];");
            default: return same(named(face, name), random.ints(5).boxed().toArray());
        }
    }

    private static Method named(Method[] face, String name) {
        return Arrays.stream(face).filter(m -> m.getName().equals(name)).findFirst().orElseThrow();
    }

    /** Feeds a text and has it read, now and then with a wrong length. */
    private boolean text(Method[] face, String name, String text) throws IllegalAccessException {
        boolean right = random.nextInt(8) == 0 || same(named(face, "book"), 0);
        for (int from = 0; right && from < text.length(); from += 20) {
            Object[] numbers = new Object[5];
            for (int i = 0; i < 5; i++) {
                int number = 0;
                for (int at = from + 4 * i; at < from + 4 * i + 4; at++) {
                    number = number << 8 | (at < text.length() ? text.charAt(at) : ' ');
                }
                numbers[i] = number;
            }
            right = same(named(face, "feed"), numbers);
        }
        int n = random.nextInt(10) == 0 ? text.length() + random.nextInt(40) - 20 : text.length();
        return right && same(named(face, name), n) && same(named(face, "fault"));
    }

    private Object[] arguments(Method m) {
        Object[] with = new Object[m.getParameterCount()];
        int[] most = MOST.get(m.getName());
        for (int i = 0; i < with.length; i++) {
            int bound = most == null ? 1 : most[i];
            int kind = random.nextInt(40);
            if (bound == Integer.MAX_VALUE) {
                with[i] = random.nextInt();
            } else if (kind < 2) {
                with[i] = kind == 0 ? -1 : bound + 1;
            } else if (bound == 7 && heir.told(0) > 0 && kind < 35) {
                with[i] = random.nextInt(heir.told(0));
            } else {
                with[i] = kind < 12 ? random.nextInt(Math.min(bound, 30) + 1) : random.nextInt(bound + 1);
            }
        }
        return with;
    }

    /** Whether both answer the call alike. */
    private boolean same(Method m, Object... with) throws IllegalAccessException {
        calls++;
        String call = m.getName() + Arrays.toString(with);
        told.append(call).append('\n');
        String got = answer(m, heir, with);
        String want = answer(twin(m), model, with);
        boolean alike = got.equals(want);
        Checks.same(alike ? call : "the last of the run\n" + told, got, want);
        return alike;
    }

    private static Method twin(Method m) {
        try {
            return Model.class.getDeclaredMethod(m.getName(), m.getParameterTypes());
        } catch (NoSuchMethodException e) {
            throw new IllegalStateException(e);
        }
    }

    private static String answer(Method m, Object on, Object[] with) throws IllegalAccessException {
        try {
            return String.valueOf(m.invoke(on, with));
        } catch (InvocationTargetException e) {
            return "throws " + e.getCause().getClass().getName();
        }
    }
}
