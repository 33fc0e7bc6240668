import java.math.BigInteger;
import java.util.ArrayList;
import java.util.Arrays;
import java.util.HashMap;
import java.util.List;
import java.util.Map;
import java.util.NoSuchElementException;

/**
 * The document once more, in another way than the class: texts as trees, states as copies, every question as a plain
 * search. ModelTest holds both against each other, so nothing here is shared with the class.
 */
final class Model {
    private static final int NONE = -1;

    /** FAR by nose, temper, cat, feints, age, reign, year, person. */
    interface Far {
        int of(int[] seen);
    }

    /** What a STEP does: true, if it could. */
    interface Step {
        boolean on(State s);
    }

    static final class Fault extends RuntimeException {
        final int kind;
        final int place;

        Fault(int kind, int place) {
            this.kind = kind;
            this.place = place;
        }
    }

    static final class Someone {
        final int[] is;
        final int[] shows;
        int age;
        boolean lives = true;

        Someone(int age, int... is) {
            this.age = age;
            this.is = is;
            this.shows = is.clone();
        }

        Someone copy() {
            Someone other = new Someone(age, is);
            System.arraycopy(shows, 0, other.shows, 0, 3);
            other.lives = lives;
            return other;
        }

        int masks() {
            int bits = 0;
            for (int t = 0; t < 3; t++) {
                if (is[t] != shows[t]) {
                    bits += 1 << t;
                }
            }
            return bits;
        }
    }

    /** All that WORK changes, with the LAW by which it is done. */
    static final class State {
        List<Someone> persons = new ArrayList<>();
        Far law;
        int duke = NONE;
        int reign;
        int year;
        int dukes;

        State copy() {
            State other = new State();
            for (Someone p : persons) {
                other.persons.add(p.copy());
            }
            other.law = law;
            other.duke = duke;
            other.reign = reign;
            other.year = year;
            other.dukes = dukes;
            return other;
        }

        boolean lives(int p) {
            return p >= 0 && p < persons.size() && persons.get(p).lives;
        }

        List<Integer> living() {
            List<Integer> all = new ArrayList<>();
            for (int p = 0; p < persons.size(); p++) {
                if (persons.get(p).lives) {
                    all.add(p);
                }
            }
            return all;
        }

        List<Integer> livingBut(int who) {
            List<Integer> all = living();
            all.remove(Integer.valueOf(who));
            return all;
        }

        int farOfSuch(int number, Someone such, int[] shows) {
            int[] seen = {0, 0, 0, Integer.bitCount(such.masks()), such.age, reign, year, number};
            for (int t = 0; t < 3; t++) {
                seen[t] = Math.abs(such.shows[t] - shows[t]);
            }
            return Math.max(0, Math.min(99, law.of(seen)));
        }

        int far(int p, int other) {
            return farOfSuch(p, persons.get(p), persons.get(other).shows);
        }

        int farFromDuke(int p) {
            return duke == NONE || p == duke ? 0 : far(p, duke);
        }

        int furthestFrom(int who) {
            int best = NONE;
            for (int p : who == NONE ? new ArrayList<Integer>() : livingBut(who)) {
                if (best == NONE || far(p, who) > far(best, who)) {
                    best = p;
                }
            }
            return best;
        }

        Someone childOf(int a, int b) {
            int[] is = new int[3];
            for (int t = 0; t < 3; t++) {
                is[t] = (persons.get(a).is[t] + persons.get(b).is[t]) / 2;
            }
            return new Someone(0, is);
        }

        boolean feign(int p, int t, int n) {
            if (!lives(p) || persons.get(p).shows[t] == n) {
                return false;
            }
            persons.get(p).shows[t] = n;
            return true;
        }

        boolean drop(int p) {
            if (p >= persons.size() || persons.get(p).masks() == 0) {
                return false;
            }
            System.arraycopy(persons.get(p).is, 0, persons.get(p).shows, 0, 3);
            return true;
        }

        boolean birth(int a, int b) {
            if (!lives(a) || !lives(b) || a == b || persons.size() == 8) {
                return false;
            }
            return persons.add(childOf(a, b));
        }

        boolean die(int p) {
            if (!lives(p)) {
                return false;
            }
            persons.get(p).lives = false;
            if (p == duke) {
                duke = furthestFrom(p);
                reign = 0;
                dukes += duke == NONE ? 0 : 1;
            }
            return true;
        }

        boolean passYear() {
            for (int p : living()) {
                persons.get(p).age++;
            }
            reign += duke == NONE ? 0 : 1;
            year++;
            return true;
        }
    }

    private static final class Image {
        final State state;
        final List<State> past;

        Image(State state, List<State> past) {
            this.state = state;
            this.past = past;
        }
    }

    private String tape = "";
    private State now = new State();
    private List<State> past = new ArrayList<>();
    private final List<Image> images = new ArrayList<>();
    private Map<Integer, Integer> lines = new HashMap<>();
    private int land = 10;
    private int place = NONE;
    private int refused = 0;
    private int noSuch = 0;
    private int illegal = 0;

    Model() {
        now.law = usual();
    }

    private static Far usual() {
        return seen -> seen[0] + 2 * seen[1] + seen[2];
    }

    // ---- refusals

    private void rightIf(boolean right) {
        if (!right) {
            illegal++;
            throw new IllegalArgumentException();
        }
    }

    private void range(int x, int least, int most) {
        rightIf(x >= least && x <= most);
    }

    private void thereIs(int person) {
        if (person < 0 || person >= now.persons.size()) {
            noSuch++;
            throw new NoSuchElementException();
        }
    }

    // ---- texts

    public int feed(int a, int b, int c, int d, int e) {
        if (tape.length() > 580) {
            return NONE;
        }
        StringBuilder more = new StringBuilder(tape);
        for (int x : new int[] {a, b, c, d, e}) {
            for (byte one : BigInteger.valueOf(x & 0xFFFFFFFFL | 1L << 32).toByteArray()) {
                more.append((char) (one & 255));
            }
            more.deleteCharAt(more.length() - 5);
        }
        tape = more.toString();
        return tape.length();
    }

    private ModelText taken(int n, int most) {
        rightIf(n >= 0 && n <= tape.length() && n <= most);
        String text = tape.substring(0, n);
        tape = "";
        place = NONE;
        return new ModelText(text);
    }

    private int faulty(Fault f) {
        place = f.place;
        return f.kind - 10;
    }

    public int dukedom(int n) {
        ModelText text = taken(n, 600);
        try {
            State told = new State();
            int landTold = text.dukedom(told);
            now = told;
            now.law = usual();
            land = landTold;
        } catch (Fault f) {
            return faulty(f);
        }
        past = new ArrayList<>();
        images.clear();
        lines = new HashMap<>();
        refused = 0;
        return now.persons.size();
    }

    public int law(int n) {
        ModelText text = taken(n, 150);
        try {
            now.law = text.law();
        } catch (Fault f) {
            return faulty(f);
        }
        return 1;
    }

    public int work(int n) {
        ModelText text = taken(n, 150);
        if (past.size() == 16) {
            return -20;
        }
        List<ModelText.Begun> steps;
        try {
            steps = text.work();
        } catch (Fault f) {
            return faulty(f);
        }
        past = new ArrayList<>(past);
        past.add(now);
        now = now.copy();
        int done = 0;
        refused = 0;
        for (ModelText.Begun begun : steps) {
            if (begun.step != null) {
                boolean could = begun.step.on(now);
                done += could ? 1 : 0;
                refused += could ? 0 : 1;
            }
        }
        return done;
    }

    public int book(int n) {
        ModelText text = taken(n, 60);
        try {
            lines = text.book();
        } catch (Fault f) {
            return faulty(f);
        }
        return lines.size();
    }

    public int fault() {
        return place;
    }

    public int undo() {
        if (past.isEmpty()) {
            return -1;
        }
        become(past.get(past.size() - 1), past.subList(0, past.size() - 1));
        return past.size();
    }

    /** The LAW is none of what WORK changes: it stays. */
    private void become(State state, List<State> before) {
        Far law = now.law;
        now = state.copy();
        now.law = law;
        past = new ArrayList<>(before);
        refused = 0;
    }

    public int image() {
        if (images.size() == 3) {
            return -1;
        }
        images.add(new Image(now.copy(), new ArrayList<>(past)));
        return images.size();
    }

    public int restore() {
        if (images.isEmpty()) {
            return -1;
        }
        Image latest = images.remove(images.size() - 1);
        become(latest.state, latest.past);
        return images.size();
    }

    public int status(int what) {
        return what == 0 ? noSuch : what == 1 ? illegal : NONE;
    }

    public int count(int what) {
        return what == 0 ? images.size() : what == 1 ? tape.length() : what == 2 ? past.size() : NONE;
    }

    // ---- what there is

    private static int bits(List<Integer> who) {
        int bits = 0;
        for (int p : who) {
            bits |= 1 << p;
        }
        return bits;
    }

    public int told(int what) {
        range(what, 0, 10);
        int feigning = 0;
        for (int p = 0; p < now.persons.size(); p++) {
            feigning |= now.persons.get(p).masks() > 0 ? 1 << p : 0;
        }
        int[] all = {now.persons.size(), bits(now.living()), now.duke, now.reign, now.furthestFrom(now.duke), now.year,
            feigning, now.dukes, land, lines.size(), refused};
        return all[what];
    }

    public int person(int person, int what) {
        thereIs(person);
        range(what, 0, 9);
        Someone p = now.persons.get(person);
        int[] all = {p.shows[0], p.shows[1], p.shows[2], p.is[0], p.is[1], p.is[2], p.age, p.lives ? 1 : 0,
            Integer.bitCount(p.masks()), now.farFromDuke(person)};
        return all[what];
    }

    public int far(int person, int other) {
        thereIs(person);
        thereIs(other);
        return now.far(person, other);
    }

    public int would(int nose, int temper, int cat, int feints, int age, int reign, int year, int person) {
        int[] seen = {nose, temper, cat, feints, age, reign, year, person};
        int[] most = {9, 9, 9, 3, 999, 900, 900, 8};
        for (int x : seen) {
            rightIf(x >= 0);
        }
        for (int i = 0; i < 8; i++) {
            rightIf(seen[i] <= most[i]);
        }
        return Math.max(0, Math.min(99, now.law.of(seen)));
    }

    public int ahead(int n, int what) {
        range(n, 0, 99);
        range(what, 0, 2);
        State then = now.copy();
        for (int i = 0; i < n; i++) {
            then.passYear();
        }
        int heir = then.furthestFrom(then.duke);
        if (what < 2) {
            return what == 0 ? heir : heir == NONE ? 0 : then.far(heir, then.duke);
        }
        int bits = 0;
        for (int p : then.livingBut(then.duke)) {
            bits |= then.far(p, then.duke) >= 20 ? 1 << p : 0;
        }
        return bits;
    }

    public int after(int k) {
        range(k, 0, 8);
        State then = now.copy();
        for (int i = 0; i < k; i++) {
            then.die(then.duke);
        }
        return then.duke;
    }

    // ---- questions

    public int feint(int person, int what) {
        thereIs(person);
        range(what, 0, 1);
        int[] best = {NONE, NONE};
        for (int kind = 0; kind < 1000 && person != now.duke && now.lives(person); kind++) {
            State then = now.copy();
            int by = 0;
            for (int t = 0; t < 3; t++) {
                by += Math.abs(digit(kind, t) - now.persons.get(person).shows[t]);
                then.persons.get(person).shows[t] = digit(kind, t);
            }
            if ((best[0] == NONE || by < best[0]) && then.furthestFrom(then.duke) == person) {
                best = new int[] {by, kind};
            }
        }
        return best[what];
    }

    private static int digit(int kind, int t) {
        return kind / new int[] {100, 10, 1}[t] % 10;
    }

    public int ring(int person, int what) {
        thereIs(person);
        range(what, 0, 1);
        List<Integer> been = new ArrayList<>();
        int at = person;
        while (!been.contains(at)) {
            been.add(at);
            at = now.furthestFrom(at);
            if (now.living().size() < 2) {
                return 0;
            }
        }
        return what == 0 ? been.indexOf(at) : been.size() - been.indexOf(at);
    }

    private int[] shownBy(int kind) {
        return new int[] {digit(kind, 0), digit(kind, 1), digit(kind, 2)};
    }

    private List<Integer> fitting() {
        List<Integer> all = new ArrayList<>();
        for (int kind = 0; kind < 1000; kind++) {
            boolean right = true;
            for (int p : lines.keySet()) {
                right = right && p < now.persons.size()
                        && now.farOfSuch(p, now.persons.get(p), shownBy(kind)) == lines.get(p);
            }
            if (right) {
                all.add(kind);
            }
        }
        return all;
    }

    public int like(int what) {
        range(what, 0, 1);
        List<Integer> all = fitting();
        return what == 0 ? all.size() : all.isEmpty() ? NONE : all.get(0);
    }

    public int ask(int what) {
        range(what, 0, 1);
        int[] best = {NONE, NONE};
        List<Integer> kinds = fitting();
        for (int p = 0; p < now.persons.size(); p++) {
            int worst = lines.containsKey(p) ? Integer.MAX_VALUE : leftAtWorst(p, kinds);
            if (worst < Integer.MAX_VALUE && (best[0] == NONE || worst < best[1])) {
                best = new int[] {p, worst};
            }
        }
        return best[what];
    }

    private int leftAtWorst(int p, List<Integer> kinds) {
        Map<Integer, Integer> left = new HashMap<>();
        int worst = 0;
        for (int kind : kinds) {
            int far = now.farOfSuch(p, now.persons.get(p), shownBy(kind));
            left.merge(far, 1, Integer::sum);
            worst = Math.max(worst, left.get(far));
        }
        return worst;
    }

    /** Behind the sum the mates of all, of the best way to hang those who are left. */
    private int[] hang(List<Integer> left) {
        int[] best = null;
        if (left.isEmpty()) {
            best = new int[9];
            Arrays.fill(best, 1, 9, NONE);
            return best;
        }
        int first = left.get(0);
        for (int i = 1; i <= left.size(); i++) {
            List<Integer> others = new ArrayList<>(left);
            if (i == left.size() && left.size() % 2 == 0) {
                continue;
            }
            int mate = i == left.size() ? NONE : others.remove(i);
            others.remove(0);
            int[] way = hang(others);
            if (mate != NONE) {
                way[0] += now.far(mate, first);
                way[1 + mate] = first;
                way[1 + first] = mate;
            }
            if (best == null || way[0] > best[0]) {
                best = way;
            }
        }
        return best;
    }

    public int pairs() {
        return hang(now.living())[0];
    }

    public int mate(int person) {
        thereIs(person);
        return hang(now.living())[1 + person];
    }

    private List<Integer> longestBehind(List<Integer> row, int n) {
        List<Integer> best = row;
        for (int p : now.living()) {
            if (!row.contains(p) && (row.isEmpty() || now.far(p, row.get(row.size() - 1)) >= n)) {
                List<Integer> longer = new ArrayList<>(row);
                longer.add(p);
                longer = longestBehind(longer, n);
                best = longer.size() > best.size() ? longer : best;
            }
            if (best.size() == now.living().size()) {
                return best;
            }
        }
        return best;
    }

    public int row(int n) {
        range(n, 0, 99);
        return longestBehind(new ArrayList<>(), n).size();
    }

    public int rowed(int n, int k) {
        range(n, 0, 99);
        rightIf(k >= 0);
        List<Integer> row = longestBehind(new ArrayList<>(), n);
        return k < row.size() ? row.get(k) : NONE;
    }

    public int child(int what) {
        range(what, 0, 1);
        int[] best = {NONE, NONE};
        for (int a : now.living()) {
            for (int b : now.living()) {
                if (a < b && now.duke != NONE) {
                    int far = now.farOfSuch(now.persons.size(), now.childOf(a, b), now.persons.get(now.duke).shows);
                    best = far > best[1] ? new int[] {10 * a + b, far} : best;
                }
            }
        }
        return best[what];
    }

    public int middling(int what) {
        range(what, 0, 1);
        int[] best = {NONE, NONE};
        for (int p : now.living()) {
            int most = NONE;
            for (int other : now.livingBut(p)) {
                most = Math.max(most, now.far(other, p));
            }
            if (most != NONE && (best[0] == NONE || most < best[1])) {
                best = new int[] {p, most};
            }
        }
        return best[what];
    }

    public long chance(int n, int k, int q, int part) {
        range(n, 0, 12);
        range(k, 0, 13);
        range(q, 0, 16);
        range(part, 0, 1);
        BigInteger[] ways = new BigInteger[14];
        Arrays.fill(ways, BigInteger.ZERO);
        ways[0] = BigInteger.ONE;
        for (int i = 0; i < n; i++) {
            for (int had = 13; had >= 0; had--) {
                BigInteger more = had == 0 ? BigInteger.ZERO : ways[had - 1].multiply(BigInteger.valueOf(q));
                ways[had] = ways[had].multiply(BigInteger.valueOf(16 - q)).add(more);
            }
        }
        BigInteger above = BigInteger.ZERO;
        for (int had = k; had < 14; had++) {
            above = above.add(ways[had]);
        }
        BigInteger below = BigInteger.valueOf(16).pow(n);
        return (part == 0 ? above : below).divide(above.gcd(below)).longValueExact();
    }

    public int feigning(int v, int w, int what) {
        range(v, 0, 99);
        range(w, 0, 99);
        range(what, 0, 2);
        // What the one has, by what it does (0 it feigns) and what the other one does.
        int[][] has = {{v / 2 - w, v - w}, {0, v / 2}};
        List<Integer> rests = new ArrayList<>();
        for (int x = 0; x < 4; x++) {
            int one = x / 2;
            int other = x % 2;
            if (has[1 - one][other] <= has[one][other] && has[1 - other][one] <= has[other][one]) {
                rests.add(x);
            }
        }
        if (what == 0 || rests.isEmpty()) {
            return what == 1 ? NONE : rests.size();
        }
        int one = rests.get(0) / 2;
        int other = rests.get(0) % 2;
        return what == 1 ? 10 * one + other : has[one][other] + has[other][one];
    }

    public int land(int person, int persons, int n) {
        thereIs(person);
        rightIf(persons >= 0 && persons >> now.persons.size() == 0);
        range(n, 0, 999);
        for (int bound = 99; bound >= 0; bound--) {
            int given = 0;
            for (int p : now.living()) {
                given += (persons >> p & 1) * Math.min(bound, now.farFromDuke(p));
            }
            if (given <= n) {
                return now.lives(person) ? (persons >> person & 1) * Math.min(bound, now.farFromDuke(person)) : 0;
            }
        }
        throw new IllegalStateException("nothing is always no more than n");
    }

    public int oldest(int what) {
        range(what, 0, 1);
        int best = NONE;
        for (int p : now.living()) {
            best = best == NONE || now.persons.get(p).age > now.persons.get(best).age ? p : best;
        }
        return what == 0 || best == NONE ? best : now.persons.get(best).age;
    }

    public int alike(int what) {
        range(what, 0, 1);
        List<Integer> all = new ArrayList<>();
        for (int a : now.living()) {
            for (int b : now.living()) {
                if (a < b && Arrays.equals(now.persons.get(a).shows, now.persons.get(b).shows)) {
                    all.add(10 * a + b);
                }
            }
        }
        return what == 0 ? all.size() : all.isEmpty() ? NONE : all.get(0);
    }

    public int beyond(int person, int n) {
        thereIs(person);
        range(n, 0, 99);
        int bits = 0;
        for (int p : now.livingBut(person)) {
            bits |= now.far(p, person) >= n ? 1 << p : 0;
        }
        return bits;
    }

    public int nearest(int what) {
        range(what, 0, 1);
        int best = NONE;
        for (int p : now.livingBut(now.duke)) {
            best = best == NONE || now.farFromDuke(p) < now.farFromDuke(best) ? p : best;
        }
        return what == 0 || best == NONE ? best : now.farFromDuke(best);
    }

    public int spread(int trait, int what) {
        range(trait, 0, 2);
        range(what, 0, 1);
        List<Integer> shown = new ArrayList<>();
        for (int p : now.living()) {
            shown.add(now.persons.get(p).shows[trait]);
        }
        shown.sort(null);
        return shown.isEmpty() ? NONE : shown.get(what == 0 ? 0 : shown.size() - 1);
    }

    public int masks(int person) {
        thereIs(person);
        return now.persons.get(person).masks();
    }

    public int rank(int k) {
        rightIf(k >= 0);
        List<Integer> all = now.livingBut(now.duke);
        all.sort((a, b) -> now.farFromDuke(b) - now.farFromDuke(a));
        return k < all.size() ? all.get(k) : NONE;
    }

    public int mild(int n) {
        range(n, 0, 99);
        int bits = 0;
        for (int p : now.living()) {
            boolean mild = true;
            for (int other : now.livingBut(p)) {
                mild = mild && now.far(p, other) <= n;
            }
            bits |= mild ? 1 << p : 0;
        }
        return bits;
    }

    public int unlike(int person) {
        thereIs(person);
        int bits = 0;
        for (int t = 0; t < 3 && now.duke != NONE; t++) {
            bits |= now.persons.get(person).shows[t] != now.persons.get(now.duke).shows[t] ? 1 << t : 0;
        }
        return bits;
    }

    // ---- centuries

    /** The SEED stands in the first place, and changes there. */
    private static int drawn(BigInteger[] seed, int by) {
        seed[0] = seed[0].multiply(BigInteger.valueOf(1_103_515_245)).add(BigInteger.valueOf(12_345))
                .mod(BigInteger.ONE.shiftLeft(32));
        return seed[0].shiftRight(16).mod(BigInteger.valueOf(32_768)).mod(BigInteger.valueOf(by)).intValue();
    }

    private State centuryOf(int from, int years, int q) {
        State then = now.copy();
        BigInteger[] seed = {BigInteger.valueOf(from)};
        for (int i = 0; i < years; i++) {
            int a = drawn(seed, 8);
            then.birth(a, drawn(seed, 8));
            if (drawn(seed, 16) < q) {
                then.die(drawn(seed, 8));
            }
            then.passYear();
        }
        return then;
    }

    public int century(int seed, int years, int q, int what) {
        range(years, 1, 96);
        range(q, 0, 16);
        range(what, 0, 3);
        State then = centuryOf(seed, years, q);
        return new int[] {then.duke, bits(then.living()), then.dukes, then.persons.size()}[what];
    }

    public int span(int seed, int many, int years, int q, int what, int person) {
        range(many, 1, 20);
        range(years, 1, 96);
        range(q, 0, 16);
        range(what, 0, 2);
        range(person, 0, now.persons.size() - 1);
        int[] all = {Integer.MAX_VALUE, 0, 0};
        for (int i = 0; i < many; i++) {
            State then = centuryOf(seed + i, years, q);
            all[0] = Math.min(all[0], then.dukes);
            all[1] = Math.max(all[1], then.dukes);
            all[2] += then.lives(person) ? 1 : 0;
        }
        return all[what];
    }
}
