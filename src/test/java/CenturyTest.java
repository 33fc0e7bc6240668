/** Promises 37 and 38: CENTURIES, each held against the same STEPS done as WORK. */
public final class CenturyTest {
    private static final String FIVE = "person 1 2 3;person 9 2 3;person 4 8 0;person 5 5 5;person 0 9 9;duke 3;";
    private static int seed;

    public static void main(String[] args) {
        int[] seeds = {0, 5, 77, -1, 1234567, Integer.MIN_VALUE, Integer.MAX_VALUE};
        for (int from : seeds) {
            against(from, 96, 2);
            against(from, 50, 5);
            against(from, 20, 16);
            against(from, 1, 9);
            against(from, 30, 0);
        }
        spans();
        lastYears();
        refusals();
        Checks.end();
    }

    private static int drawn(int by) {
        seed = seed * 1103515245 + 12345;
        return (seed >> 16 & 0x7fff) % by;
    }

    private static FarthestHeir ready() {
        FarthestHeir h = Checks.ruled(FIVE);
        Checks.law(h, "nose * 2 + temper + age / 3 + reign * person");
        Checks.work(h, "feign 0 0 7;year;year;die 3;");
        return h;
    }

    /** Does the CENTURY as WORK, seven YEARS at a time. */
    private static FarthestHeir lived(int from, int years, int q) {
        FarthestHeir h = ready();
        seed = from;
        StringBuilder text = new StringBuilder();
        for (int i = 1; i <= years; i++) {
            int a = drawn(8);
            int b = drawn(8);
            text.append("birth ").append(a).append(' ').append(b).append(';');
            if (drawn(16) < q) {
                text.append("die ").append(drawn(8)).append(';');
            }
            text.append("year;");
            if (i % 7 == 0 || i == years) {
                Checks.work(h, text.toString());
                text.setLength(0);
            }
        }
        return h;
    }

    private static void against(int from, int years, int q) {
        FarthestHeir h = ready();
        FarthestHeir then = lived(from, years, q);
        int[] told = {2, 1, 7, 0};
        for (int what = 0; what < told.length; what++) {
            Checks.due("century " + from + " " + years + " " + q + " " + what,
                    h.century(from, years, q, what), then.told(told[what]));
        }
        Checks.due("nothing stays", h.told(5), 2);
        Checks.due("nothing stays", h.told(0), 5);
        Checks.due("nothing stays", h.told(7), 2);
        Checks.due("no work", h.count(2), 1);
    }

    private static void spans() {
        FarthestHeir h = ready();
        Checks.due("all live by 0 of 16", h.span(9, 20, 1, 0, 2, 1), 20);
        Checks.due("a dead one does not", h.span(9, 20, 1, 0, 2, 3), 0);
        int[] manies = {1, 7, 20};
        for (int many : manies) {
            for (int p = 0; p < 5; p++) {
                int fewest = 99;
                int most = 0;
                int lives = 0;
                for (int i = 0; i < many; i++) {
                    int dukes = h.century(Integer.MAX_VALUE - 3 + i, 40, 4, 2);
                    fewest = Math.min(fewest, dukes);
                    most = Math.max(most, dukes);
                    lives += h.century(Integer.MAX_VALUE - 3 + i, 40, 4, 1) >> p & 1;
                }
                Checks.due("fewest of " + many, h.span(Integer.MAX_VALUE - 3, many, 40, 4, 0, p), fewest);
                Checks.due("most of " + many, h.span(Integer.MAX_VALUE - 3, many, 40, 4, 1, p), most);
                Checks.due(p + " lives by " + many, h.span(Integer.MAX_VALUE - 3, many, 40, 4, 2, p), lives);
            }
        }
    }

    /** A CENTURY goes on beyond YEAR 900: by a LAW that forgets the YEARS ahead of it, as one from YEAR 0 on. */
    private static void lastYears() {
        int[] begins = {804, 820, 860, 897, 899, 900};
        for (int begin : begins) {
            FarthestHeir late = begun(begin, begin);
            FarthestHeir early = begun(0, begin);
            Checks.due("the year", late.told(5), begin);
            for (int from = -8; from < 8; from++) {
                same(late, early, from, 96, 4);
                same(late, early, from, 40, 9);
                same(late, early, from, 5, 16);
            }
            Checks.due("nothing stays", late.told(5), begin);
            Checks.due("nothing stays", late.person(0, 6), begin + 20);
        }
        Checks.due("nobody without people", new FarthestHeir().century(5, 9, 9, 0), -1);
        Checks.due("nobody without people", new FarthestHeir().century(5, 9, 9, 2), 0);
    }

    private static FarthestHeir begun(int years, int rest) {
        FarthestHeir h = Checks.ruled(FIVE);
        Checks.passed(h, years);
        Checks.work(h, "feign 0 0 7;die 3;");
        Checks.law(h, "(nose + year % R * person + age % R / 3 * 5 + reign * temper) % 40".replace("R", "" + rest));
        return h;
    }

    private static void same(FarthestHeir late, FarthestHeir early, int from, int years, int q) {
        String what = from + " " + years + " " + q + " ";
        for (int part = 0; part < 4; part++) {
            Checks.due("century " + what + part, late.century(from, years, q, part), early.century(from, years, q, part));
        }
        int many = 1 + (from & 3);
        for (int part = 0; part < 3; part++) {
            Checks.due("span " + what + part, late.span(from * 77, many, years, q, part, 2),
                    early.span(from * 77, many, years, q, part, 2));
        }
    }

    private static void refusals() {
        FarthestHeir h = Checks.ruled(FIVE);
        Checks.illegal("years", () -> h.century(1, 0, 0, 0));
        Checks.illegal("years", () -> h.century(1, 97, 0, 0));
        Checks.illegal("q", () -> h.century(1, 1, 17, 0));
        Checks.illegal("q", () -> h.century(1, 1, -1, 0));
        Checks.illegal("what", () -> h.century(1, 1, 0, 4));
        Checks.illegal("what", () -> h.century(1, 1, 0, -1));
        Checks.illegal("many", () -> h.span(1, 0, 1, 0, 0, 0));
        Checks.illegal("many", () -> h.span(1, 21, 1, 0, 0, 0));
        Checks.illegal("years", () -> h.span(1, 1, 0, 0, 0, 0));
        Checks.illegal("years", () -> h.span(1, 1, 97, 0, 0, 0));
        Checks.illegal("q", () -> h.span(1, 1, 1, 17, 0, 0));
        Checks.illegal("q", () -> h.span(1, 1, 1, -1, 0, 0));
        Checks.illegal("what", () -> h.span(1, 1, 1, 0, 3, 0));
        Checks.illegal("what", () -> h.span(1, 1, 1, 0, -1, 0));
        for (int what = 0; what < 3; what++) {
            int asked = what;
            Checks.illegal("no such person", () -> h.span(1, 1, 1, 0, asked, 5));
            Checks.illegal("no such person", () -> h.span(1, 1, 1, 0, asked, -1));
        }
        Checks.due("all illegal", h.status(1), 20);
        Checks.due("none of another kind", h.status(0), 0);
    }
}
