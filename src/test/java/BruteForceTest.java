import java.util.Random;

/**
 * Promises 15 to 24, 27, 30, 34 and 35 held against plain searches that use nothing but what the face tells of one
 * PERSON, or of two. The searches make more than 512 calls on an object: the class keeps no count of them.
 */
public final class BruteForceTest {
    private static final String[] LAWS = {
        "nose + temper * 2 + cat",
        "nose * 3 - temper + person * 2 + feints * 9",
        "(nose * 17 + temper * 29 + cat * 31 + person * 7) % 40",
        "least[nose, cat] * (person + 1) + age / 9 + reign",
        "most[temper - 3, 0] * 5 + feints",
        "(nose + year + person) % 3 * 11",
        "7",
    };
    private static final Random RANDOM = new Random(20);

    private static FarthestHeir h;
    private static String told;
    private static int persons;
    private static int[] best;

    public static void main(String[] args) {
        for (int i = 0; i < 60; i++) {
            make(LAWS[i % LAWS.length]);
            rows(RANDOM.nextInt(25));
            rows(RANDOM.nextInt(60));
            pairs();
            guesses();
            ranks();
            children();
            middling();
            for (int p = 0; p < persons; p++) {
                feint(p);
                ring(p);
                shares(p, RANDOM.nextInt(1 << persons), RANDOM.nextInt(90));
            }
        }
        Checks.end();
    }

    private static void make(String law) {
        StringBuilder text = new StringBuilder();
        int many = 1 + RANDOM.nextInt(8);
        for (int p = 0; p < many; p++) {
            text.append("person ").append(RANDOM.nextInt(10)).append(' ').append(RANDOM.nextInt(10)).append(' ')
                    .append(RANDOM.nextInt(10)).append(';');
        }
        text.append("duke ").append(RANDOM.nextInt(many)).append(';');
        h = Checks.ruled(text.toString());
        Checks.law(h, law);
        StringBuilder work = new StringBuilder("year;");
        for (int i = 0; i < 5; i++) {
            work.append("feign ").append(RANDOM.nextInt(8)).append(' ').append(RANDOM.nextInt(3)).append(' ')
                    .append(RANDOM.nextInt(10)).append(';');
        }
        work.append("birth 0 ").append(RANDOM.nextInt(8)).append(";die ").append(RANDOM.nextInt(8)).append(";year;");
        Checks.work(h, work.toString());
        persons = h.told(0);
        told = text + " " + law + " " + work + ": ";
    }

    private static boolean lives(int p) {
        return h.person(p, 7) == 1;
    }

    private static int living() {
        return Integer.bitCount(h.told(1));
    }

    private static void rows(int n) {
        best = new int[0];
        extend(new int[0], n);
        Checks.due(told + "row " + n, h.row(n), best.length);
        for (int k = 0; k < best.length; k++) {
            Checks.due(told + "rowed " + n + " " + k, h.rowed(n, k), best[k]);
        }
        Checks.due(told + "rowed " + n + " behind", h.rowed(n, best.length), -1);
    }

    private static void extend(int[] row, int n) {
        best = row.length > best.length ? row : best;
        for (int p = 0; p < persons && best.length < living(); p++) {
            boolean free = lives(p);
            for (int other : row) {
                free &= other != p;
            }
            if (free && (row.length == 0 || h.far(p, row[row.length - 1]) >= n)) {
                int[] longer = java.util.Arrays.copyOf(row, row.length + 1);
                longer[row.length] = p;
                extend(longer, n);
            }
        }
    }

    private static void pairs() {
        best = null;
        int[] mates = new int[persons];
        java.util.Arrays.fill(mates, -2);
        int most = hang(mates, 0, living() % 2 == 1, 0, -1);
        Checks.due(told + "pairs", h.pairs(), most);
        for (int p = 0; p < persons; p++) {
            Checks.due(told + "mate " + p, h.mate(p), best[p] == -2 ? -1 : best[p]);
        }
    }

    private static int hang(int[] mates, int from, boolean alone, int sum, int most) {
        int p = from;
        while (p < persons && (mates[p] != -2 || !lives(p))) {
            p++;
        }
        if (p == persons) {
            best = sum > most ? mates.clone() : best;
            return Math.max(sum, most);
        }
        int found = most;
        for (int mate = p + 1; mate < persons; mate++) {
            if (mates[mate] == -2 && lives(mate)) {
                mates[p] = mate;
                mates[mate] = p;
                found = hang(mates, p + 1, alone, sum + h.far(mate, p), found);
                mates[mate] = -2;
            }
        }
        if (alone) {
            mates[p] = -1;
            found = hang(mates, p + 1, false, sum, found);
        }
        mates[p] = -2;
        return found;
    }

    private static int farFromKind(int p, int kind) {
        return h.would(Math.abs(h.person(p, 0) - kind / 100), Math.abs(h.person(p, 1) - kind / 10 % 10),
                Math.abs(h.person(p, 2) - kind % 10), h.person(p, 8), h.person(p, 6), h.told(3), h.told(5), p);
    }

    private static void guesses() {
        int kind = RANDOM.nextInt(1000);
        int lined = RANDOM.nextInt(1 << persons) & RANDOM.nextInt(1 << persons);
        StringBuilder book = new StringBuilder();
        for (int p = 0; p < persons; p++) {
            if ((lined >> p & 1) == 1) {
                book.append(p).append(' ').append(farFromKind(p, kind)).append(';');
            }
        }
        Checks.book(h, book.toString());
        boolean[] fits = new boolean[1000];
        int many = 0;
        int first = -1;
        for (int k = 999; k >= 0; k--) {
            fits[k] = true;
            for (int p = 0; p < persons; p++) {
                fits[k] &= (lined >> p & 1) == 0 || farFromKind(p, k) == farFromKind(p, kind);
            }
            many += fits[k] ? 1 : 0;
            first = fits[k] ? k : first;
        }
        Checks.due(told + book + " like", h.like(0), many);
        Checks.due(told + book + " first like", h.like(1), first);
        int whom = -1;
        int left = -1;
        for (int p = persons - 1; p >= 0; p--) {
            int worst = (lined >> p & 1) == 0 ? worst(p, fits) : Integer.MAX_VALUE;
            if ((lined >> p & 1) == 0 && (whom < 0 || worst <= left)) {
                whom = p;
                left = worst;
            }
        }
        Checks.due(told + book + " ask", h.ask(0), whom);
        Checks.due(told + book + " left", h.ask(1), left);
    }

    private static int worst(int p, boolean[] fits) {
        int[] met = new int[100];
        int worst = 0;
        for (int k = 0; k < 1000; k++) {
            if (fits[k]) {
                worst = Math.max(worst, ++met[farFromKind(p, k)]);
            }
        }
        return worst;
    }

    /** Goes through all that one may show, and holds it against all others. */
    private static void feint(int p) {
        int duke = h.told(2);
        int least = 99;
        int numbers = -1;
        for (int kind = 0; kind < 1000 && duke >= 0 && p != duke && lives(p); kind++) {
            int[] shown = {kind / 100, kind / 10 % 10, kind % 10};
            int by = 0;
            int feints = 0;
            int[] apart = new int[3];
            for (int t = 0; t < 3; t++) {
                by += Math.abs(shown[t] - h.person(p, t));
                feints += shown[t] == h.person(p, 3 + t) ? 0 : 1;
                apart[t] = Math.abs(shown[t] - h.person(duke, t));
            }
            int far = h.would(apart[0], apart[1], apart[2], feints, h.person(p, 6), h.told(3), h.told(5), p);
            boolean heir = true;
            for (int q = 0; q < persons; q++) {
                if (q != p && q != duke && lives(q)) {
                    heir &= q < p ? far > h.far(q, duke) : far >= h.far(q, duke);
                }
            }
            if (heir && by < least) {
                least = by;
                numbers = kind;
            }
        }
        Checks.due(told + "feint by " + p, h.feint(p, 0), numbers < 0 ? -1 : least);
        Checks.due(told + "feint of " + p, h.feint(p, 1), numbers);
    }

    private static void shares(int p, int among, int n) {
        int[] claims = new int[persons];
        int all = 0;
        for (int q = 0; q < persons; q++) {
            claims[q] = (among >> q & 1) == 1 && lives(q) ? h.person(q, 9) : 0;
            all += claims[q];
        }
        int bound = 1000;
        while (all > n) {
            bound--;
            all = 0;
            for (int claim : claims) {
                all += Math.min(claim, bound);
            }
        }
        Checks.due(told + "land " + p + " " + among + " " + n, h.land(p, among, n), Math.min(claims[p], bound));
    }

    private static void ranks() {
        int duke = h.told(2);
        for (int p = 0; p < persons; p++) {
            if (lives(p) && p != duke) {
                int k = 0;
                for (int q = 0; q < persons; q++) {
                    boolean other = lives(q) && q != duke && q != p;
                    boolean ahead = other && (h.far(q, duke) > h.far(p, duke) || h.far(q, duke) == h.far(p, duke) && q < p);
                    k += ahead ? 1 : 0;
                }
                Checks.due(told + "rank " + k, h.rank(k), p);
            }
        }
        Checks.due(told + "heir", h.told(4), h.rank(0));
        for (int p = 0; p < persons; p++) {
            int bits = 0;
            boolean mild = lives(p);
            for (int q = 0; q < persons; q++) {
                bits |= lives(q) && q != p && h.far(q, p) >= 20 ? 1 << q : 0;
                mild &= !lives(q) || q == p || h.far(p, q) <= 20;
            }
            Checks.due(told + "beyond " + p, h.beyond(p, 20), bits);
            Checks.due(told + "mild " + p, h.mild(20) >> p & 1, mild ? 1 : 0);
        }
    }

    private static void children() {
        int duke = h.told(2);
        int two = -1;
        int most = -1;
        for (int a = persons - 1; a >= 0; a--) {
            for (int b = persons - 1; b > a; b--) {
                if (lives(a) && lives(b)) {
                    int[] apart = new int[3];
                    for (int t = 0; t < 3; t++) {
                        apart[t] = Math.abs((h.person(a, 3 + t) + h.person(b, 3 + t)) / 2 - h.person(duke, t));
                    }
                    int far = h.would(apart[0], apart[1], apart[2], 0, 0, h.told(3), h.told(5), persons);
                    two = far >= most ? 10 * a + b : two;
                    most = Math.max(most, far);
                }
            }
        }
        Checks.due(told + "child", h.child(0), two);
        Checks.due(told + "child far", h.child(1), most);
    }

    private static void middling() {
        int who = -1;
        int least = -1;
        for (int p = persons - 1; p >= 0; p--) {
            int most = -1;
            for (int q = 0; q < persons; q++) {
                most = p != q && lives(p) && lives(q) ? Math.max(most, h.far(q, p)) : most;
            }
            if (most >= 0 && (who < 0 || most <= least)) {
                who = p;
                least = most;
            }
        }
        Checks.due(told + "middling", h.middling(0), who);
        Checks.due(told + "middling far", h.middling(1), least);
    }

    private static void ring(int from) {
        int[] met = new int[persons];
        int at = from;
        int steps = 1;
        while (living() > 1 && met[at] == 0) {
            met[at] = steps++;
            int next = -1;
            for (int p = persons - 1; p >= 0; p--) {
                next = p != at && lives(p) && (next < 0 || h.far(p, at) >= h.far(next, at)) ? p : next;
            }
            at = next;
        }
        Checks.due(told + "tail " + from, h.ring(from, 0), living() > 1 ? met[at] - 1 : 0);
        Checks.due(told + "round " + from, h.ring(from, 1), living() > 1 ? steps - met[at] : 0);
    }
}
