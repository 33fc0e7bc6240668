import java.lang.reflect.InvocationTargetException;
import java.lang.reflect.Method;
import java.lang.reflect.Modifier;
import java.util.ArrayList;
import java.util.Arrays;
import java.util.Comparator;
import java.util.List;
import java.util.Random;

/** No call throws what the document does not name, whatever the arguments and the state; refusals are counted (41). */
public final class RobustTest {
    private static final Random RANDOM = new Random(7);
    private static final int[] EDGES = {-1, 0, 1, 7, 8, 9, 16, 60, 99, 100, 150, 255, 256, 600, 900, 999,
        Integer.MAX_VALUE, Integer.MIN_VALUE};
    private static final String[] PIECES = {"person", "duke", "land", "feign", "drop", "birth", "die", "year", "again",
        "nose", "temper", "cat", "least", "most", "(", ")", "[", "]", ",", ";", ";", "+", "-", "*", "/", "%", " ", "0",
        "1", "7", "9", "60", "999", "99999999999"};
    private static final String[] WHOLE = {"person 1 2 3;person 4 5 6;person 9 9 0;", "again 60[birth 0 1;year;];",
        "feign 0 1 2;feign 1 0 9;die 0;", "least[nose*9,age]-temper%(reign-2)", "0 1;1 20;", "die 0;die 1;die 2;"};

    public static void main(String[] args) {
        List<Method> calls = new ArrayList<>();
        for (Method m : FarthestHeir.class.getDeclaredMethods()) {
            if (Modifier.isPublic(m.getModifiers())) {
                calls.add(m);
            }
        }
        calls.sort(Comparator.comparing(Method::getName));
        for (int run = 0; run < 400; run++) {
            FarthestHeir h = new FarthestHeir();
            int[] refused = new int[2];
            for (int i = 0; i < 500; i++) {
                if (RANDOM.nextInt(6) == 0) {
                    text(h);
                } else {
                    call(h, calls.get(RANDOM.nextInt(calls.size())), refused);
                }
            }
            Checks.due("no such ones", h.status(0), refused[0]);
            Checks.due("illegal ones", h.status(1), refused[1]);
        }
        Checks.end();
    }

    private static void text(FarthestHeir h) {
        h.book(0);
        StringBuilder text = new StringBuilder();
        if (RANDOM.nextInt(3) > 0) {
            text.append(WHOLE[RANDOM.nextInt(WHOLE.length)]);
        }
        for (int i = RANDOM.nextInt(5) * RANDOM.nextInt(5); i > 0; i--) {
            text.append(PIECES[RANDOM.nextInt(PIECES.length)]);
        }
        int n = Math.min(60, text.length());
        Checks.feed(h, text.toString());
        switch (RANDOM.nextInt(5)) {
            case 0: h.dukedom(n); break;
            case 1: h.law(n); break;
            case 2: h.book(n); break;
            default: h.work(n); break;
        }
        Checks.due("place of a fault", h.fault() >= -1 && h.fault() <= n ? 1 : 0, 1);
    }

    private static void call(FarthestHeir h, Method m, int[] refused) {
        Object[] with = new Object[m.getParameterCount()];
        for (int i = 0; i < with.length; i++) {
            int kind = RANDOM.nextInt(12);
            with[i] = kind == 0 ? EDGES[RANDOM.nextInt(EDGES.length)] : RANDOM.nextInt(kind == 1 ? 100 : 3);
        }
        try {
            m.invoke(h, with);
        } catch (InvocationTargetException e) {
            Class<?> kind = e.getCause().getClass();
            boolean named = Arrays.asList(m.getExceptionTypes()).contains(kind);
            Checks.due(m.getName() + Arrays.toString(with) + " threw " + kind, named ? 1 : 0, 1);
            refused[kind == IllegalArgumentException.class ? 1 : 0]++;
        } catch (IllegalAccessException e) {
            throw new IllegalStateException(e);
        }
    }
}
