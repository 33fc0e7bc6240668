import java.util.NoSuchElementException;

/** What the tests share: feeding texts, and telling which answers are not as due. */
final class Checks {
    interface Call {
        long answer();
    }

    private static int wrong = 0;
    private static int made = 0;

    private Checks() {
    }

    static void due(String what, long got, long want) {
        made++;
        if (got != want) {
            wrong++;
            System.out.println(what + " answered " + got + ", due is " + want);
        }
    }

    /** The call must throw just this class. */
    static void refused(String what, Class<? extends RuntimeException> kind, Call call) {
        made++;
        String got;
        try {
            got = "answered " + call.answer();
        } catch (RuntimeException e) {
            got = e.getClass() == kind ? null : "threw " + e.getClass().getName();
        }
        if (got != null) {
            wrong++;
            System.out.println(what + " " + got + ", due is " + kind.getName());
        }
    }

    static void illegal(String what, Call call) {
        refused(what, IllegalArgumentException.class, call);
    }

    static void noSuch(String what, Call call) {
        refused(what, NoSuchElementException.class, call);
    }

    static void feed(FarthestHeir h, String text) {
        for (int from = 0; from < text.length(); from += 20) {
            int[] numbers = new int[5];
            for (int i = 0; i < 20; i++) {
                int sign = from + i < text.length() ? text.charAt(from + i) : 0;
                numbers[i / 4] = numbers[i / 4] << 8 | sign;
            }
            h.feed(numbers[0], numbers[1], numbers[2], numbers[3], numbers[4]);
        }
    }

    static int dukedom(FarthestHeir h, String text) {
        feed(h, text);
        return h.dukedom(text.length());
    }

    static int law(FarthestHeir h, String text) {
        feed(h, text);
        return h.law(text.length());
    }

    static int work(FarthestHeir h, String text) {
        feed(h, text);
        return h.work(text.length());
    }

    static int book(FarthestHeir h, String text) {
        feed(h, text);
        return h.book(text.length());
    }

    static FarthestHeir ruled(String dukedom) {
        FarthestHeir h = new FarthestHeir();
        if (dukedom(h, dukedom) < 0) {
            throw new IllegalStateException("a test's dukedom has a fault: " + dukedom);
        }
        return h;
    }

    /** Passes so many YEARS, by as few WORKS as may be. */
    static void passed(FarthestHeir h, int years) {
        for (int left = years; left > 0; left -= 180) {
            StringBuilder text = new StringBuilder();
            for (int n = Math.min(left, 180); n > 0; n -= 60) {
                text.append("again ").append(Math.min(n, 60)).append("[year;];");
            }
            work(h, text.toString());
        }
    }

    static String times(String text, int n) {
        StringBuilder all = new StringBuilder();
        for (int i = 0; i < n; i++) {
            all.append(text);
        }
        return all.toString();
    }

    static void end() {
        System.out.println(wrong == 0 ? made + " answers are as due" : wrong + " of " + made + " answers are not as due");
        if (wrong != 0) {
            System.exit(1);
        }
    }
}
