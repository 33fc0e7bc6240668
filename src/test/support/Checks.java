import java.util.NoSuchElementException;

/** What the tests share: feeding texts, and telling which answers are not as due. */
final class Checks {
    interface Call {
        long answer();
    }

    interface CallOf {
        long answer(int x);
    }

    private static int wrong = 0;
    private static int made = 0;
    private static String sentence = "";

    private Checks() {
    }

    /** Which words of the document the next answers are held against. */
    static void of(String words) {
        sentence = "[" + words + "] ";
    }

    private static void tellWrong(String told) {
        wrong++;
        System.out.println(sentence + told);
    }

    static void due(String what, long got, long want) {
        made++;
        if (got != want) {
            tellWrong(what + " answered " + got + ", due is " + want);
        }
    }

    static void same(String what, String got, String want) {
        made++;
        if (!got.equals(want)) {
            tellWrong(what + " is\n  " + got + ", due is\n  " + want);
        }
    }

    /** The call must throw just this class. */
    static void refused(String what, Class<? extends RuntimeException> kind, Call call) {
        made++;
        String got;
        try {
            got = "answered " + call.answer();
        } catch (RuntimeException e) {
            got = e.getClass() == kind ? null : "threw " + e.getClass().getName();
        }
        if (got != null) {
            tellWrong(what + " " + got + ", due is " + kind.getName());
        }
    }

    /** The call must answer, whatever it is. */
    static void answered(String what, Call call) {
        made++;
        try {
            call.answer();
        } catch (RuntimeException e) {
            tellWrong(what + " threw " + e.getClass().getName() + ", due is an answer");
        }
    }

    static void illegal(String what, Call call) {
        refused(what, IllegalArgumentException.class, call);
    }

    static void noSuch(String what, Call call) {
        refused(what, NoSuchElementException.class, call);
    }

    /** From least to most there is an answer; one less, one more and what is far away are refused, and counted once. */
    static void range(FarthestHeir h, String what, int least, int most, CallOf call) {
        answered(what + " " + least, () -> call.answer(least));
        answered(what + " " + most, () -> call.answer(most));
        int[] outside = {least - 1, most + 1, Integer.MIN_VALUE, Integer.MAX_VALUE};
        int noSuch = h.status(0);
        int illegal = h.status(1);
        for (int x : outside) {
            illegal(what + " " + x, () -> call.answer(x));
        }
        due("illegal ones of " + what, h.status(1) - illegal, outside.length);
        due("no such ones of " + what, h.status(0) - noSuch, 0);
    }

    /** Each PERSON there is has an answer; all other numbers are refused, and counted once. */
    static void persons(FarthestHeir h, String what, CallOf call) {
        int there = h.told(0);
        for (int p = 0; p < there; p++) {
            int person = p;
            answered(what + " of " + p, () -> call.answer(person));
        }
        int[] outside = {-1, there, 8, Integer.MIN_VALUE, Integer.MAX_VALUE};
        int noSuch = h.status(0);
        int illegal = h.status(1);
        for (int x : outside) {
            noSuch(what + " of " + x, () -> call.answer(x));
        }
        due("no such ones of " + what, h.status(0) - noSuch, outside.length);
        due("illegal ones of " + what, h.status(1) - illegal, 0);
    }

    static void feed(FarthestHeir h, String text) {
        for (int from = 0; from < text.length(); from += 20) {
            int[] numbers = new int[5];
            for (int i = 0; i < 20; i++) {
                int sign = from + i < text.length() ? text.charAt(from + i) : 0;
                numbers[i / 4] = numbers[i / 4] << 8 | sign;
            }
            h.feed(numbers[0], numbers[1], numbers[2], numbers[3], numbers[4]);
        }
    }

    static int dukedom(FarthestHeir h, String text) {
        feed(h, text);
        return h.dukedom(text.length());
    }

    static int law(FarthestHeir h, String text) {
        feed(h, text);
        return h.law(text.length());
    }

    static int work(FarthestHeir h, String text) {
        feed(h, text);
        return h.work(text.length());
    }

    static int book(FarthestHeir h, String text) {
        feed(h, text);
        return h.book(text.length());
    }

    static FarthestHeir ruled(String dukedom) {
        FarthestHeir h = new FarthestHeir();
        if (dukedom(h, dukedom) < 0) {
            throw new IllegalStateException("a test's dukedom has a fault: " + dukedom);
        }
        return h;
    }

    /** Passes so many YEARS, by as few WORKS as may be. */
    static void passed(FarthestHeir h, int years) {
        for (int left = years; left > 0; left -= 180) {
            StringBuilder text = new StringBuilder();
            for (int n = Math.min(left, 180); n > 0; n -= 60) {
                text.append("again ").append(Math.min(n, 60)).append("[year;];");
            }
            work(h, text.toString());
        }
    }

    static void undone(FarthestHeir h, int works) {
        for (int i = 0; i < works; i++) {
            h.undo();
        }
    }

    static String times(String text, int n) {
        StringBuilder all = new StringBuilder();
        for (int i = 0; i < n; i++) {
            all.append(text);
        }
        return all.toString();
    }

    static void end() {
        System.out.println(wrong == 0 ? made + " answers are as due" : wrong + " of " + made + " answers are not as due");
        if (wrong != 0) {
            System.exit(1);
        }
    }
}
