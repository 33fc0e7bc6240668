import java.util.NoSuchElementException;

/** A dukedom in which the heir is whoever is least like the duke. */
public final class FarthestHeir {
    public static final int NONE = -1;

    private static final int CROWD = 8;
    private static final int TRAITS = 3;
    private static final int TAPE_MOST = 600;
    private static final int FEED_BYTES = 20;
    private static final int LAW_MOST = 150;
    private static final int WORK_MOST = 150;
    private static final int BOOK_MOST = 60;
    private static final int WORKS_MOST = 16;
    private static final int IMAGES_MOST = 3;
    private static final int OPEN_MOST = 6;
    private static final int YEAR_LAST = 900;
    private static final int FAR_MOST = 99;
    private static final int KINDS = 1000;
    private static final int LAND_UNTOLD = 10;
    private static final int WORK_FULL = -20;
    private static final int END = -1;
    private static final int CANT_STAND = 1;
    private static final int NO_SUCH_NUMBER = 2;
    private static final int TOO_MANY = 3;

    private final Tape tape = new Tape();
    private final DukedomText dukedomText = new DukedomText(tape);
    private final LawText lawText = new LawText(tape);
    private final WorkText workText = new WorkText(tape);
    private final Book lines = new Book();
    private final Court court = new Court();
    private final Guess guess = new Guess();
    private final Realm trial = new Realm();
    private final Chronicle chronicle = new Chronicle();
    private final Moment[] images = new Moment[IMAGES_MOST];
    private Law ruling = new Law();
    private Realm realm = new Realm();
    private Moment past = null;
    private int imageCount = 0;
    private int landTold = LAND_UNTOLD;
    private int refusedSteps = 0;
    private int noSuch = 0;
    private int illegal = 0;

    public FarthestHeir() {
    }

    public int feed(int a, int b, int c, int d, int e) {
        if (tape.length + FEED_BYTES > TAPE_MOST) {
            return NONE;
        }
        tape.put(a);
        tape.put(b);
        tape.put(c);
        tape.put(d);
        tape.put(e);
        return tape.length;
    }

    public int dukedom(int n) throws IllegalArgumentException {
        need(within(n, 0, tape.length));
        tape.begin(n);
        Realm told = new Realm();
        if (!dukedomText.reads(told)) {
            return tape.verdict();
        }
        realm = told;
        landTold = dukedomText.land;
        ruling.becomeUsual();
        lines.empty();
        past = null;
        forgetImages();
        refusedSteps = 0;
        return realm.persons;
    }

    public int law(int n) throws IllegalArgumentException {
        needText(n, LAW_MOST);
        tape.begin(n);
        if (!lawText.reads()) {
            return tape.verdict();
        }
        ruling = lawText.exchange(ruling);
        return 1;
    }

    public int work(int n) throws IllegalArgumentException {
        needText(n, WORK_MOST);
        if (worksDone() >= WORKS_MOST) {
            tape.begin(0);
            return WORK_FULL;
        }
        tape.begin(n);
        if (!workText.reads()) {
            return tape.verdict();
        }
        past = new Moment(realm, past);
        // Moments and images share realms: a realm that is kept is never changed again.
        Realm next = new Realm();
        next.become(realm);
        realm = next;
        workText.run(realm, ruling);
        refusedSteps = workText.refused;
        return workText.done;
    }

    public int book(int n) throws IllegalArgumentException {
        needText(n, BOOK_MOST);
        tape.begin(n);
        if (!lines.reads(tape)) {
            return tape.verdict();
        }
        return lines.many;
    }

    public int fault() {
        return tape.place;
    }

    public int undo() {
        if (past == null) {
            return -1;
        }
        realm = past.realm;
        past = past.before;
        refusedSteps = 0;
        return worksDone();
    }

    public int told(int what) throws IllegalArgumentException {
        need(within(what, 0, 10));
        switch (what) {
            case 0: return realm.persons;
            case 1: return realm.live;
            case 2: return realm.duke;
            case 3: return realm.reign;
            case 4: return ruling.furthestFrom(realm, realm.duke);
            case 5: return realm.year;
            case 6: return realm.feigners();
            case 7: return realm.dukes;
            case 8: return landTold;
            case 9: return lines.many;
            default: return refusedSteps;
        }
    }

    public int person(int person, int what) throws NoSuchElementException, IllegalArgumentException {
        needPerson(person);
        need(within(what, 0, 9));
        if (what < TRAITS) {
            return realm.shown(person, what);
        }
        if (what < 2 * TRAITS) {
            return realm.own(person, what - TRAITS);
        }
        switch (what) {
            case 6: return realm.years(person);
            case 7: return realm.lives(person) ? 1 : 0;
            case 8: return realm.feints(person);
            default: return ruling.fromDuke(realm, person);
        }
    }

    public int far(int person, int other) throws NoSuchElementException {
        needPerson(person);
        needPerson(other);
        return ruling.between(realm, person, other);
    }

    public int would(int nose, int temper, int cat, int feints, int age, int reign, int year, int person)
            throws IllegalArgumentException {
        need(within(nose, 0, 9) && within(temper, 0, 9) && within(cat, 0, 9));
        need(within(feints, 0, TRAITS) && within(age, 0, 999));
        need(within(reign, 0, YEAR_LAST) && within(year, 0, YEAR_LAST) && within(person, 0, CROWD));
        ruling.suppose(feints, age, reign, year, person);
        return ruling.measured(nose, temper, cat);
    }

    public int ahead(int n, int what) throws IllegalArgumentException {
        need(within(n, 0, 99) && within(what, 0, 2));
        trial.become(realm);
        for (int i = 0; i < n; i++) {
            trial.passYear();
        }
        if (what == 2) {
            return ruling.beyondOf(trial, trial.duke, 20);
        }
        int heir = ruling.furthestFrom(trial, trial.duke);
        if (what == 0) {
            return heir;
        }
        return heir == NONE ? 0 : ruling.fromDuke(trial, heir);
    }

    public int after(int k) throws IllegalArgumentException {
        need(within(k, 0, CROWD));
        trial.become(realm);
        for (int i = 0; i < k; i++) {
            trial.bury(trial.duke, ruling);
        }
        return trial.duke;
    }

    public int feint(int person, int what) throws NoSuchElementException, IllegalArgumentException {
        needPerson(person);
        need(within(what, 0, 1));
        return guess.leastFeint(realm, ruling, person, what);
    }

    public int ring(int person, int what) throws NoSuchElementException, IllegalArgumentException {
        needPerson(person);
        need(within(what, 0, 1));
        return court.ringFrom(realm, ruling, person, what);
    }

    public int like(int what) throws IllegalArgumentException {
        need(within(what, 0, 1));
        guess.seek(realm, ruling, lines);
        if (what == 0) {
            return guess.many;
        }
        return guess.many > 0 ? guess.fit[0] : NONE;
    }

    public int ask(int what) throws IllegalArgumentException {
        need(within(what, 0, 1));
        guess.seek(realm, ruling, lines);
        guess.chooseWhomToAsk(realm, ruling, lines);
        return what == 0 ? guess.asked : guess.leftAtWorst;
    }

    public int pairs() {
        return court.hang(realm, ruling);
    }

    public int mate(int person) throws NoSuchElementException {
        needPerson(person);
        court.hang(realm, ruling);
        return court.mates[person];
    }

    public int row(int n) throws IllegalArgumentException {
        need(within(n, 0, FAR_MOST));
        return court.lineUp(realm, ruling, n);
    }

    public int rowed(int n, int k) throws IllegalArgumentException {
        need(within(n, 0, FAR_MOST) && k >= 0);
        return k < court.lineUp(realm, ruling, n) ? court.line[k] : NONE;
    }

    public int child(int what) throws IllegalArgumentException {
        need(within(what, 0, 1));
        if (realm.duke == NONE) {
            return NONE;
        }
        int two = NONE;
        int most = NONE;
        for (int a = 0; a < realm.persons; a++) {
            for (int b = a + 1; b < realm.persons; b++) {
                int far = realm.lives(a) && realm.lives(b) ? ruling.childFromDuke(realm, a, b) : NONE;
                if (far > most) {
                    most = far;
                    two = 10 * a + b;
                }
            }
        }
        return what == 0 ? two : most;
    }

    public int middling(int what) throws IllegalArgumentException {
        need(within(what, 0, 1));
        if (realm.living() < 2) {
            return NONE;
        }
        int who = NONE;
        int least = FAR_MOST + 1;
        for (int p = 0; p < realm.persons; p++) {
            int other = realm.lives(p) ? ruling.furthestFrom(realm, p) : NONE;
            int most = other == NONE ? least : ruling.between(realm, other, p);
            if (most < least) {
                least = most;
                who = p;
            }
        }
        return what == 0 ? who : least;
    }

    public long chance(int n, int k, int q, int part) throws IllegalArgumentException {
        need(within(n, 0, 12) && within(k, 0, 13) && within(q, 0, 16) && within(part, 0, 1));
        long above = waysOfAtLeast(n, k, q);
        if (above == 0) {
            return part;
        }
        // Below there is a power of two, which is never less than what is above.
        return (part == 0 ? above : 1L << (4 * n)) >> Long.numberOfTrailingZeros(above);
    }

    public int feigning(int v, int w, int what) throws IllegalArgumentException {
        need(within(v, 0, 99) && within(w, 0, 99) && within(what, 0, 2));
        int rests = 0;
        int first = NONE;
        int together = 0;
        for (int one = 0; one < 2; one++) {
            for (int other = 0; other < 2; other++) {
                boolean rest = gain(v, w, one, other) >= gain(v, w, 1 - one, other)
                        && gain(v, w, other, one) >= gain(v, w, 1 - other, one);
                if (rest && rests == 0) {
                    first = 10 * one + other;
                    together = gain(v, w, one, other) + gain(v, w, other, one);
                }
                rests += rest ? 1 : 0;
            }
        }
        if (what == 0) {
            return rests;
        }
        return what == 1 ? first : together;
    }

    public int land(int person, int persons, int n) throws NoSuchElementException, IllegalArgumentException {
        needPerson(person);
        need(within(persons, 0, (1 << realm.persons) - 1) && within(n, 0, 999));
        return court.share(realm, ruling, person, persons, n);
    }

    public int oldest(int what) throws IllegalArgumentException {
        need(within(what, 0, 1));
        int who = NONE;
        int most = NONE;
        for (int p = 0; p < realm.persons; p++) {
            if (realm.lives(p) && realm.years(p) > most) {
                most = realm.years(p);
                who = p;
            }
        }
        return what == 0 ? who : most;
    }

    public int alike(int what) throws IllegalArgumentException {
        need(within(what, 0, 1));
        int many = 0;
        int first = NONE;
        for (int a = 0; a < realm.persons; a++) {
            for (int b = a + 1; b < realm.persons; b++) {
                if (realm.lives(a) && realm.lives(b) && realm.differing(a, b) == 0) {
                    first = many == 0 ? 10 * a + b : first;
                    many++;
                }
            }
        }
        return what == 0 ? many : first;
    }

    public int beyond(int person, int n) throws NoSuchElementException, IllegalArgumentException {
        needPerson(person);
        need(within(n, 0, FAR_MOST));
        return ruling.beyondOf(realm, person, n);
    }

    public int nearest(int what) throws IllegalArgumentException {
        need(within(what, 0, 1));
        int who = NONE;
        int least = FAR_MOST + 1;
        for (int p = 0; p < realm.persons; p++) {
            if (realm.lives(p) && p != realm.duke && ruling.fromDuke(realm, p) < least) {
                least = ruling.fromDuke(realm, p);
                who = p;
            }
        }
        return what == 0 || who == NONE ? who : least;
    }

    public int spread(int trait, int what) throws IllegalArgumentException {
        need(within(trait, 0, TRAITS - 1) && within(what, 0, 1));
        int least = NONE;
        int most = NONE;
        for (int p = 0; p < realm.persons; p++) {
            if (realm.lives(p)) {
                int shown = realm.shown(p, trait);
                least = least == NONE ? shown : Math.min(least, shown);
                most = Math.max(most, shown);
            }
        }
        return what == 0 ? least : most;
    }

    public int masks(int person) throws NoSuchElementException {
        needPerson(person);
        return realm.masked(person);
    }

    public int rank(int k) throws IllegalArgumentException {
        need(k >= 0);
        for (int p = 0; p < realm.persons; p++) {
            if (realm.lives(p) && p != realm.duke && furtherOnes(p) == k) {
                return p;
            }
        }
        return NONE;
    }

    public int mild(int n) throws IllegalArgumentException {
        need(within(n, 0, FAR_MOST));
        int bits = 0;
        for (int p = 0; p < realm.persons; p++) {
            if (realm.lives(p) && court.isMild(realm, ruling, p, n)) {
                bits |= 1 << p;
            }
        }
        return bits;
    }

    public int unlike(int person) throws NoSuchElementException {
        needPerson(person);
        return realm.duke == NONE ? 0 : realm.differing(person, realm.duke);
    }

    public int century(int seed, int years, int q, int what) throws IllegalArgumentException {
        need(within(years, 1, 96) && within(q, 0, 16) && within(what, 0, 3));
        trial.become(realm);
        chronicle.run(trial, ruling, seed, years, q);
        switch (what) {
            case 0: return trial.duke;
            case 1: return trial.live;
            case 2: return trial.dukes;
            default: return trial.persons;
        }
    }

    public int span(int seed, int many, int years, int q, int what, int person) throws IllegalArgumentException {
        need(within(many, 1, 20) && within(years, 1, 96) && within(q, 0, 16) && within(what, 0, 2));
        need(realm.has(person));
        int fewest = NONE;
        int most = 0;
        int survived = 0;
        for (int i = 0; i < many; i++) {
            trial.become(realm);
            chronicle.run(trial, ruling, seed + i, years, q);
            fewest = fewest == NONE ? trial.dukes : Math.min(fewest, trial.dukes);
            most = Math.max(most, trial.dukes);
            survived += trial.lives(person) ? 1 : 0;
        }
        if (what == 0) {
            return fewest;
        }
        return what == 1 ? most : survived;
    }

    public int image() {
        if (imageCount >= IMAGES_MOST) {
            return -1;
        }
        images[imageCount] = new Moment(realm, past);
        imageCount++;
        return imageCount;
    }

    public int restore() {
        Moment latest = imageCount > 0 ? images[imageCount - 1] : null;
        if (latest == null) {
            return -1;
        }
        imageCount--;
        images[imageCount] = null;
        realm = latest.realm;
        past = latest.before;
        refusedSteps = 0;
        return imageCount;
    }

    public int status(int what) {
        if (what == 0) {
            return noSuch;
        }
        return what == 1 ? illegal : NONE;
    }

    public int count(int what) {
        switch (what) {
            case 0: return imageCount;
            case 1: return tape.length;
            case 2: return worksDone();
            default: return NONE;
        }
    }

    private static boolean within(int x, int least, int most) {
        return x >= least && x <= most;
    }

    private void need(boolean right) {
        if (!right) {
            illegal++;
            throw new IllegalArgumentException();
        }
    }

    private void needText(int n, int most) {
        need(within(n, 0, Math.min(tape.length, most)));
    }

    private void needPerson(int person) {
        if (!realm.has(person)) {
            noSuch++;
            throw new NoSuchElementException();
        }
    }

    private int worksDone() {
        return past == null ? 0 : past.depth;
    }

    private void forgetImages() {
        for (int i = 0; i < images.length; i++) {
            images[i] = null;
        }
        imageCount = 0;
    }

    /** How many of those who live, but the DUKE, stand ahead of one by how FAR they are from him. */
    private int furtherOnes(int person) {
        int own = ruling.fromDuke(realm, person);
        int further = 0;
        for (int p = 0; p < realm.persons; p++) {
            if (realm.lives(p) && p != realm.duke && p != person) {
                int far = ruling.fromDuke(realm, p);
                further += far > own || (far == own && p < person) ? 1 : 0;
            }
        }
        return further;
    }

    private static int gain(int v, int w, int own, int other) {
        if (own == 0) {
            return (other == 0 ? v / 2 : v) - w;
        }
        return other == 0 ? 0 : v / 2;
    }

    /** Of 16 to the n equal ways how many have k traits or more. */
    private static long waysOfAtLeast(int n, int k, int q) {
        long sum = 0;
        long choices = 1;
        for (int i = 0; i <= n; i++) {
            if (i >= k) {
                sum += choices * power(q, i) * power(16 - q, n - i);
            }
            choices = choices * (n - i) / (i + 1);
        }
        return sum;
    }

    private static long power(int base, int exponent) {
        long product = 1;
        for (int i = 0; i < exponent; i++) {
            product *= base;
        }
        return product;
    }

    /** What there was at one time: a realm, and the WORKS that can be undone from there. */
    private static final class Moment {
        final Realm realm;
        final Moment before;
        final int depth;

        Moment(Realm realm, Moment before) {
            this.realm = realm;
            this.before = before;
            this.depth = before == null ? 1 : before.depth + 1;
        }
    }

    /** The bytes that were fed, and the reading of one text from them. */
    private static final class Tape {
        private final int[] bytes = new int[TAPE_MOST];
        private int end = 0;
        private int at = 0;
        private int tokenAt = 0;
        private int kind = 0;
        int length = 0;
        int place = NONE;

        void put(int number) {
            if (length + 4 <= bytes.length) {
                for (int i = 0; i < 4; i++) {
                    bytes[length + i] = number >>> (24 - 8 * i) & 255;
                }
                length += 4;
            }
        }

        /** The TAPE is empty then, but its bytes stay where they are until the text is read. */
        void begin(int n) {
            end = Math.max(0, Math.min(n, bytes.length));
            at = 0;
            kind = 0;
            place = NONE;
            length = 0;
        }

        int verdict() {
            return kind - 10;
        }

        boolean blame(int fault, int where) {
            kind = fault;
            place = where;
            return false;
        }

        /** Blames the latest word or number. */
        boolean blameToken(int fault) {
            kind = fault;
            place = tokenAt;
            return false;
        }

        private static boolean isDigit(int sign) {
            return sign >= '0' && sign <= '9';
        }

        /** The next sign that is no blank, or END. */
        int next() {
            while (at < end && bytes[at] == ' ') {
                at++;
            }
            return at < end ? bytes[at] : END;
        }

        boolean takes(int sign) {
            if (next() != sign) {
                return false;
            }
            at++;
            return true;
        }

        boolean needs(int sign) {
            if (next() != sign) {
                return blame(CANT_STAND, at);
            }
            at++;
            return true;
        }

        boolean needsEnd() {
            return next() == END || blame(CANT_STAND, at);
        }

        boolean nextIsNumber() {
            return isDigit(next());
        }

        /** The number that stands next; NONE, and a FAULT, if there is none up to the most. */
        int number(int most) {
            if (!nextIsNumber()) {
                blame(CANT_STAND, at);
                return NONE;
            }
            tokenAt = at;
            int value = 0;
            while (at < end && isDigit(bytes[at])) {
                // Above every bound it stays as it is, so that long numbers do not wrap.
                value = value > 999 ? value : value * 10 + bytes[at] - '0';
                at++;
            }
            if (value > most) {
                blameToken(NO_SUCH_NUMBER);
                return NONE;
            }
            return value;
        }

        /** Goes behind the word that stands next, which may be empty. */
        void word() {
            next();
            tokenAt = at;
            while (at < end && bytes[at] >= 'a' && bytes[at] <= 'z') {
                at++;
            }
        }

        boolean wordIs(String text) {
            if (at - tokenAt != text.length() || tokenAt < 0 || at > end) {
                return false;
            }
            for (int i = 0; i < text.length(); i++) {
                if (bytes[tokenAt + i] != text.charAt(i)) {
                    return false;
                }
            }
            return true;
        }
    }

    /** Who there is, and all else that WORK changes. */
    private static final class Realm {
        private final int[] is = new int[CROWD * TRAITS];
        private final int[] shows = new int[CROWD * TRAITS];
        private final int[] age = new int[CROWD];
        int persons = 0;
        int live = 0;
        int duke = NONE;
        int reign = 0;
        int year = 0;
        int dukes = 0;

        void become(Realm other) {
            System.arraycopy(other.is, 0, is, 0, is.length);
            System.arraycopy(other.shows, 0, shows, 0, shows.length);
            System.arraycopy(other.age, 0, age, 0, age.length);
            persons = other.persons;
            live = other.live;
            duke = other.duke;
            reign = other.reign;
            year = other.year;
            dukes = other.dukes;
        }

        boolean has(int p) {
            return p >= 0 && p < persons && p < CROWD;
        }

        boolean lives(int p) {
            return p >= 0 && p < CROWD && (live >> p & 1) == 1;
        }

        int living() {
            return Integer.bitCount(live);
        }

        int shown(int p, int trait) {
            int i = p * TRAITS + trait;
            return i >= 0 && i < shows.length ? shows[i] : 0;
        }

        int own(int p, int trait) {
            int i = p * TRAITS + trait;
            return i >= 0 && i < is.length ? is[i] : 0;
        }

        int years(int p) {
            return p >= 0 && p < age.length ? age[p] : 0;
        }

        int apart(int p, int other, int trait) {
            return Math.abs(shown(p, trait) - shown(other, trait));
        }

        /** TRAITS (bits) in which two show different numbers. */
        int differing(int p, int other) {
            int bits = 0;
            for (int t = 0; t < TRAITS; t++) {
                bits |= apart(p, other, t) == 0 ? 0 : 1 << t;
            }
            return bits;
        }

        /** TRAITS (bits) that one feigns. */
        int masked(int p) {
            int bits = 0;
            for (int t = 0; t < TRAITS; t++) {
                bits |= shown(p, t) == own(p, t) ? 0 : 1 << t;
            }
            return bits;
        }

        /** How many TRAITS one feigns: the LAW asks it often, so it goes straight to the rows. */
        int feints(int p) {
            int from = p * TRAITS;
            int many = 0;
            for (int i = from; i >= 0 && i < from + TRAITS && i < is.length; i++) {
                many += is[i] == shows[i] ? 0 : 1;
            }
            return many;
        }

        int feigners() {
            int bits = 0;
            for (int p = 0; p < persons; p++) {
                bits |= masked(p) == 0 ? 0 : 1 << p;
            }
            return bits;
        }

        int childTrait(int a, int b, int trait) {
            return (own(a, trait) + own(b, trait)) / 2;
        }

        boolean add(int nose, int temper, int cat, int years) {
            if (persons < 0 || persons >= CROWD) {
                return false;
            }
            int p = persons;
            persons++;
            live |= 1 << p;
            age[p] = years;
            is[p * TRAITS] = nose;
            is[p * TRAITS + 1] = temper;
            is[p * TRAITS + 2] = cat;
            System.arraycopy(is, p * TRAITS, shows, p * TRAITS, TRAITS);
            return true;
        }

        void crown(int p) {
            duke = p;
            reign = 0;
            dukes += p == NONE ? 0 : 1;
        }

        boolean pretend(int p, int trait, int n) {
            int i = p * TRAITS + trait;
            if (!lives(p) || i < 0 || i >= shows.length || shows[i] == n) {
                return false;
            }
            shows[i] = n;
            return true;
        }

        boolean unmask(int p) {
            if (!has(p) || masked(p) == 0) {
                return false;
            }
            System.arraycopy(is, p * TRAITS, shows, p * TRAITS, TRAITS);
            return true;
        }

        boolean bear(int a, int b) {
            if (!lives(a) || !lives(b) || a == b) {
                return false;
            }
            return add(childTrait(a, b, 0), childTrait(a, b, 1), childTrait(a, b, 2), 0);
        }

        boolean bury(int p, Law law) {
            if (!lives(p)) {
                return false;
            }
            live &= ~(1 << p);
            if (p == duke) {
                crown(law.furthestFrom(this, p));
            }
            return true;
        }

        /** The STEP year, which alone has a last YEAR. */
        boolean stepYear() {
            if (year >= YEAR_LAST) {
                return false;
            }
            passYear();
            return true;
        }

        void passYear() {
            for (int p = 0; p < persons; p++) {
                if (lives(p)) {
                    age[p]++;
                }
            }
            reign += duke == NONE ? 0 : 1;
            year++;
        }
    }

    /** How FAR one is from another one: what the text says, with its operators behind their operands. */
    private static final class Law {
        static final int ADD = 0;
        static final int LESS = 1;
        static final int TIMES = 2;
        static final int BY = 3;
        static final int REST = 4;
        static final int LEAST = 5;
        static final int MOST = 6;
        static final int SEEN = 10;
        static final int SEEN_KINDS = 8;
        static final int NUMBER = 100;
        private static final int[] USUAL = {10, 11, 102, 2, 0, 12, 0};

        private final int[] code = new int[LAW_MOST];
        /** In each bracket a sum, a product and the first of two may wait for what comes behind. */
        private final int[] stack = new int[3 * (OPEN_MOST + 1)];
        private final int[] seen = new int[SEEN_KINDS];
        private int length = 0;

        Law() {
            becomeUsual();
        }

        void becomeUsual() {
            System.arraycopy(USUAL, 0, code, 0, USUAL.length);
            length = USUAL.length;
        }

        void clear() {
            length = 0;
        }

        void put(int op) {
            if (length < code.length) {
                code[length] = op;
                length++;
            }
        }

        void suppose(int feints, int age, int reign, int year, int person) {
            seen[3] = feints;
            seen[4] = age;
            seen[5] = reign;
            seen[6] = year;
            seen[7] = person;
        }

        void regard(Realm realm, int p) {
            suppose(realm.feints(p), realm.years(p), realm.reign, realm.year, p);
        }

        int measured(int nose, int temper, int cat) {
            seen[0] = nose;
            seen[1] = temper;
            seen[2] = cat;
            int top = 0;
            for (int i = 0; i < length && i < code.length; i++) {
                int op = code[i];
                if (op >= NUMBER && top < stack.length) {
                    stack[top] = op - NUMBER;
                    top++;
                } else if (op >= SEEN && op < SEEN + SEEN_KINDS && top < stack.length) {
                    stack[top] = seen[op - SEEN];
                    top++;
                } else if (op < SEEN && top >= 2) {
                    top--;
                    stack[top - 1] = joined(op, stack[top - 1], stack[top]);
                }
            }
            int out = stack[0];
            if (out < 0) {
                return 0;
            }
            return out > FAR_MOST ? FAR_MOST : out;
        }

        private static int joined(int op, int left, int right) {
            switch (op) {
                case ADD: return left + right;
                case LESS: return left - right;
                case TIMES: return left * right;
                case BY: return right == 0 ? 0 : left / right;
                case REST: return right == 0 ? 0 : left % right;
                case LEAST: return left < right ? left : right;
                default: return left > right ? left : right;
            }
        }

        int between(Realm realm, int p, int other) {
            regard(realm, p);
            return measured(realm.apart(p, other, 0), realm.apart(p, other, 1), realm.apart(p, other, 2));
        }

        int fromDuke(Realm realm, int p) {
            return realm.duke == NONE || realm.duke == p ? 0 : between(realm, p, realm.duke);
        }

        int childFromDuke(Realm realm, int a, int b) {
            suppose(0, 0, realm.reign, realm.year, realm.persons);
            return measured(Math.abs(realm.childTrait(a, b, 0) - realm.shown(realm.duke, 0)),
                    Math.abs(realm.childTrait(a, b, 1) - realm.shown(realm.duke, 1)),
                    Math.abs(realm.childTrait(a, b, 2) - realm.shown(realm.duke, 2)));
        }

        /** Of all others who live the first who is FAR most from one: of a DUKE the HEIR. */
        int furthestFrom(Realm realm, int from) {
            int who = NONE;
            int most = NONE;
            for (int p = 0; p < realm.persons && from != NONE; p++) {
                int far = realm.lives(p) && p != from ? between(realm, p, from) : NONE;
                if (far > most) {
                    most = far;
                    who = p;
                }
            }
            return who;
        }

        /** Who lives (bits), but the one himself, and is FAR n or more from him. */
        int beyondOf(Realm realm, int from, int n) {
            int bits = 0;
            for (int p = 0; p < realm.persons && from != NONE; p++) {
                if (realm.lives(p) && p != from && between(realm, p, from) >= n) {
                    bits |= 1 << p;
                }
            }
            return bits;
        }
    }

    /** Reads the text of a LAW into a draft, so that the ruling one stays if there is a FAULT. */
    private static final class LawText {
        private final Tape tape;
        private Law draft = new Law();

        LawText(Tape tape) {
            this.tape = tape;
        }

        boolean reads() {
            draft.clear();
            return sum(0) && tape.needsEnd();
        }

        /** Hands out what was read; the former LAW becomes the next draft. */
        Law exchange(Law former) {
            Law read = draft;
            draft = former;
            return read;
        }

        private boolean sum(int open) {
            boolean right = product(open);
            for (int i = 0; right && i < LAW_MOST; i++) {
                if (tape.takes('+')) {
                    right = product(open) && put(Law.ADD);
                } else if (tape.takes('-')) {
                    right = product(open) && put(Law.LESS);
                } else {
                    break;
                }
            }
            return right;
        }

        private boolean product(int open) {
            boolean right = unit(open);
            for (int i = 0; right && i < LAW_MOST; i++) {
                if (tape.takes('*')) {
                    right = unit(open) && put(Law.TIMES);
                } else if (tape.takes('/')) {
                    right = unit(open) && put(Law.BY);
                } else if (tape.takes('%')) {
                    right = unit(open) && put(Law.REST);
                } else {
                    break;
                }
            }
            return right;
        }

        private boolean unit(int open) {
            if (tape.nextIsNumber()) {
                int n = tape.number(999);
                return n != NONE && put(Law.NUMBER + n);
            }
            tape.word();
            if (tape.wordIs("")) {
                return bracket(open);
            }
            if (tape.wordIs("least")) {
                return chosen(open, Law.LEAST);
            }
            if (tape.wordIs("most")) {
                return chosen(open, Law.MOST);
            }
            int kind = seenKind();
            return kind == NONE ? tape.blameToken(CANT_STAND) : put(Law.SEEN + kind);
        }

        private boolean bracket(int open) {
            if (tape.next() != '(') {
                return tape.blameToken(CANT_STAND);
            }
            return opens(open) && tape.needs('(') && sum(open + 1) && tape.needs(')');
        }

        private boolean chosen(int open, int op) {
            return opens(open) && tape.needs('[') && sum(open + 1) && tape.needs(',')
                    && sum(open + 1) && tape.needs(']') && put(op);
        }

        private boolean opens(int open) {
            return open < OPEN_MOST || tape.blameToken(TOO_MANY);
        }

        private boolean put(int op) {
            draft.put(op);
            return true;
        }

        private int seenKind() {
            if (tape.wordIs("nose")) {
                return 0;
            }
            if (tape.wordIs("temper")) {
                return 1;
            }
            if (tape.wordIs("cat")) {
                return 2;
            }
            if (tape.wordIs("feints")) {
                return 3;
            }
            if (tape.wordIs("age")) {
                return 4;
            }
            if (tape.wordIs("reign")) {
                return 5;
            }
            if (tape.wordIs("year")) {
                return 6;
            }
            return tape.wordIs("person") ? 7 : NONE;
        }
    }

    /** Reads the text of a DUKEDOM. */
    private static final class DukedomText {
        private static final int CLAUSES_MOST = 60;
        private static final int AGE_TOLD = 20;

        private final Tape tape;
        private int clauses = 0;
        private int duke = 0;
        int land = LAND_UNTOLD;

        DukedomText(Tape tape) {
            this.tape = tape;
        }

        boolean reads(Realm into) {
            clauses = 0;
            duke = 0;
            land = LAND_UNTOLD;
            for (int i = 0; i <= TAPE_MOST && tape.next() != END; i++) {
                if (!clause(into) || !tape.needs(';')) {
                    return false;
                }
                clauses++;
            }
            into.crown(into.persons == 0 ? NONE : duke);
            return true;
        }

        private boolean clause(Realm into) {
            tape.word();
            if (tape.wordIs("person")) {
                return fits(into.persons < CROWD) && personClause(into);
            }
            if (tape.wordIs("duke")) {
                return fits(true) && dukeClause(into);
            }
            if (tape.wordIs("land")) {
                return fits(true) && landClause();
            }
            return tape.blameToken(CANT_STAND);
        }

        private boolean fits(boolean room) {
            return (room && clauses < CLAUSES_MOST) || tape.blameToken(TOO_MANY);
        }

        private boolean personClause(Realm into) {
            int nose = tape.number(9);
            int temper = nose == NONE ? NONE : tape.number(9);
            int cat = temper == NONE ? NONE : tape.number(9);
            return cat != NONE && into.add(nose, temper, cat, AGE_TOLD);
        }

        private boolean dukeClause(Realm into) {
            int p = tape.number(into.persons - 1);
            duke = p == NONE ? duke : p;
            return p != NONE;
        }

        private boolean landClause() {
            int n = tape.number(99);
            land = n == NONE ? land : n;
            return n != NONE;
        }
    }

    /** Reads the text of WORK, and does it. */
    private static final class WorkText {
        private static final int FEIGN = 0;
        private static final int DROP = 1;
        private static final int BIRTH = 2;
        private static final int DIE = 3;
        private static final int YEAR = 4;
        private static final int AGAIN = 5;
        private static final int CLOSE = 6;
        private static final int WIDTH = 4;
        private static final int AGAIN_MOST = 60;
        private static final int BEGUN_MOST = 200;
        /** A plain step takes one place and has five bytes at the least, an again two places and nine bytes. */
        private static final int STEPS_MOST = WORK_MOST / 4;
        /** Each step that is begun is followed by 60 closings of an empty again at the most. */
        private static final int MOVES_MOST = (BEGUN_MOST + 1) * (AGAIN_MOST + 2);

        private final Tape tape;
        private final int[] steps = new int[STEPS_MOST * WIDTH];
        private final int[] opened = new int[OPEN_MOST];
        private final int[] left = new int[OPEN_MOST];
        private int length = 0;
        private int open = 0;
        private int begun = 0;
        int done = 0;
        int refused = 0;

        WorkText(Tape tape) {
            this.tape = tape;
        }

        boolean reads() {
            length = 0;
            open = 0;
            for (int i = 0; i <= WORK_MOST; i++) {
                int sign = tape.next();
                if (sign == END && open == 0) {
                    return true;
                }
                boolean right = sign == ']' && open > 0 ? closing() : step();
                if (!right) {
                    return false;
                }
            }
            return true;
        }

        private boolean closing() {
            open--;
            int start = open >= 0 && open < OPEN_MOST ? opened[open] : 0;
            part(start, 2, length);
            put(CLOSE, start, 0, 0);
            return tape.needs(']') && tape.needs(';');
        }

        private boolean step() {
            tape.word();
            if (tape.wordIs("again")) {
                return again();
            }
            return plainStep() && tape.needs(';');
        }

        private boolean plainStep() {
            if (tape.wordIs("feign")) {
                return feignStep();
            }
            if (tape.wordIs("drop")) {
                return stepOfOne(DROP);
            }
            if (tape.wordIs("birth")) {
                return birthStep();
            }
            if (tape.wordIs("die")) {
                return stepOfOne(DIE);
            }
            return tape.wordIs("year") ? put(YEAR, 0, 0, 0) : tape.blameToken(CANT_STAND);
        }

        private boolean again() {
            if (open >= OPEN_MOST) {
                return tape.blameToken(TOO_MANY);
            }
            int n = tape.number(AGAIN_MOST);
            if (n == NONE || !tape.needs('[')) {
                return false;
            }
            opened[open] = length;
            open++;
            return put(AGAIN, n, 0, 0);
        }

        private boolean feignStep() {
            int p = tape.number(CROWD - 1);
            int trait = p == NONE ? NONE : tape.number(TRAITS - 1);
            int n = trait == NONE ? NONE : tape.number(9);
            return n != NONE && put(FEIGN, p, trait, n);
        }

        private boolean birthStep() {
            int a = tape.number(CROWD - 1);
            int b = a == NONE ? NONE : tape.number(CROWD - 1);
            return b != NONE && put(BIRTH, a, b, 0);
        }

        private boolean stepOfOne(int op) {
            int p = tape.number(CROWD - 1);
            return p != NONE && put(op, p, 0, 0);
        }

        private boolean put(int op, int a, int b, int c) {
            int i = length;
            length++;
            part(i, 0, op);
            part(i, 1, a);
            part(i, 2, b);
            part(i, 3, c);
            return true;
        }

        private void part(int step, int which, int value) {
            if (step >= 0 && step < STEPS_MOST && within(which, 0, WIDTH - 1)) {
                steps[step * WIDTH + which] = value;
            }
        }

        private int part(int step, int which) {
            return step >= 0 && step < STEPS_MOST && within(which, 0, WIDTH - 1) ? steps[step * WIDTH + which] : 0;
        }

        void run(Realm realm, Law law) {
            begun = 0;
            done = 0;
            refused = 0;
            open = 0;
            int at = 0;
            for (int i = 0; i < MOVES_MOST && at < length; i++) {
                int op = part(at, 0);
                if (op == CLOSE) {
                    at = closed(at);
                    continue;
                }
                if (begun >= BEGUN_MOST) {
                    break;
                }
                begun++;
                if (op == AGAIN) {
                    at = entered(at);
                } else {
                    tally(does(realm, law, at, op));
                    at++;
                }
            }
        }

        private void tally(boolean could) {
            done += could ? 1 : 0;
            refused += could ? 0 : 1;
        }

        /** Where an again goes on: inside it, or behind it. */
        private int entered(int at) {
            int times = part(at, 1);
            if (times == 0 || open >= OPEN_MOST) {
                return part(at, 2) + 1;
            }
            left[open] = times;
            open++;
            return at + 1;
        }

        private int closed(int at) {
            int inner = open - 1;
            if (inner < 0 || inner >= OPEN_MOST) {
                return at + 1;
            }
            left[inner]--;
            if (left[inner] > 0) {
                return part(at, 1) + 1;
            }
            open = inner;
            return at + 1;
        }

        private boolean does(Realm realm, Law law, int at, int op) {
            int p = part(at, 1);
            switch (op) {
                case FEIGN: return realm.pretend(p, part(at, 2), part(at, 3));
                case DROP: return realm.unmask(p);
                case BIRTH: return realm.bear(p, part(at, 2));
                case DIE: return realm.bury(p, law);
                default: return realm.stepYear();
            }
        }
    }

    /** How FAR people were from an unknown DUKE. */
    private static final class Book {
        private final int[] fars = new int[CROWD];
        private final int[] drafted = new int[CROWD];
        int many = 0;

        Book() {
            empty();
        }

        void empty() {
            for (int p = 0; p < fars.length; p++) {
                fars[p] = NONE;
            }
            many = 0;
        }

        boolean has(int p) {
            return farOf(p) != NONE;
        }

        int farOf(int p) {
            return p >= 0 && p < fars.length ? fars[p] : NONE;
        }

        boolean reads(Tape tape) {
            for (int p = 0; p < drafted.length; p++) {
                drafted[p] = NONE;
            }
            int read = 0;
            for (int i = 0; i <= BOOK_MOST && tape.next() != END; i++) {
                if (!line(tape)) {
                    return false;
                }
                read++;
            }
            System.arraycopy(drafted, 0, fars, 0, fars.length);
            many = read;
            return true;
        }

        private boolean line(Tape tape) {
            int p = tape.number(CROWD - 1);
            if (p == NONE || p >= drafted.length) {
                return false;
            }
            if (drafted[p] != NONE) {
                return tape.blameToken(NO_SUCH_NUMBER);
            }
            drafted[p] = tape.number(FAR_MOST);
            return drafted[p] != NONE && tape.needs(';');
        }
    }

    /** What those who live are among one another: rings, pairs, rows, shares of land. */
    private static final class Court {
        private static final int CROWDS = 1 << CROWD;

        private final int[] fars = new int[CROWD * CROWD];
        private final int[] best = new int[CROWDS * CROWD];
        private final int[] claims = new int[CROWD];
        private final int[] stepOf = new int[CROWD];
        final int[] mates = new int[CROWD];
        final int[] line = new int[CROWD];

        private void measure(Realm realm, Law law) {
            for (int p = 0; p < CROWD; p++) {
                for (int other = 0; other < CROWD; other++) {
                    boolean both = p != other && realm.lives(p) && realm.lives(other);
                    fars[p * CROWD + other] = both ? law.between(realm, p, other) : 0;
                }
            }
        }

        /** TAIL (what 0) or ROUND (1) of the RING from one. */
        int ringFrom(Realm realm, Law law, int from, int what) {
            if (realm.living() < 2) {
                return 0;
            }
            for (int p = 0; p < stepOf.length; p++) {
                stepOf[p] = NONE;
            }
            int at = from;
            for (int step = 0; step <= CROWD && at >= 0 && at < stepOf.length; step++) {
                if (stepOf[at] != NONE) {
                    return what == 0 ? stepOf[at] : step - stepOf[at];
                }
                stepOf[at] = step;
                at = law.furthestFrom(realm, at);
            }
            return 0;
        }

        /** Hangs all who live in twos: FAR together, and the mates. */
        int hang(Realm realm, Law law) {
            measure(realm, law);
            best[0] = 0;
            for (int crowd = 1; crowd < CROWDS; crowd++) {
                best[crowd] = 0;
                for (int mate = 0; mate <= CROWD && (crowd & ~realm.live) == 0; mate++) {
                    best[crowd] = Math.max(best[crowd], hung(crowd, mate));
                }
            }
            for (int p = 0; p < CROWD; p++) {
                mates[p] = NONE;
            }
            int crowd = realm.live;
            for (int i = 0; i < CROWD && crowd != 0; i++) {
                crowd = hangFirst(crowd);
            }
            return best[realm.live & (CROWDS - 1)];
        }

        /** The most, if the first of a crowd hangs with a mate (8: alone); NONE, if that can't be. */
        private int hung(int crowd, int mate) {
            int first = Integer.numberOfTrailingZeros(crowd);
            int others = crowd & ~(1 << first) & (CROWDS - 1);
            if (mate == CROWD) {
                return Integer.bitCount(others) % 2 == 0 ? best[others] : NONE;
            }
            if (first >= CROWD || (others >> mate & 1) == 0) {
                return NONE;
            }
            return fars[mate * CROWD + first] + best[others & ~(1 << mate)];
        }

        /** Those who are left when the first of a crowd has its least mate of the best ones. */
        private int hangFirst(int crowd) {
            int first = Integer.numberOfTrailingZeros(crowd);
            int others = crowd & ~(1 << first);
            for (int mate = 0; mate < CROWD && first < CROWD; mate++) {
                if (hung(crowd, mate) == best[crowd & (CROWDS - 1)]) {
                    mates[first] = mate;
                    mates[mate] = first;
                    return others & ~(1 << mate);
                }
            }
            return others;
        }

        /** Finds the ROW by n: how many. */
        int lineUp(Realm realm, Law law, int n) {
            measure(realm, law);
            for (int crowd = CROWDS - 1; crowd > 0; crowd--) {
                for (int last = 0; last < CROWD && (crowd & ~realm.live) == 0; last++) {
                    best[crowd * CROWD + last] = (crowd >> last & 1) == 0 ? 0 : longest(realm.live, crowd, last, n);
                }
            }
            int length = 0;
            int at = follower(realm.live, 0, NONE, n);
            int crowd = 0;
            for (int i = 0; i < CROWD && at != NONE; i++) {
                line[i] = at;
                length++;
                crowd |= 1 << at;
                at = follower(realm.live, crowd, at, n);
            }
            return length;
        }

        /** How many stand in the longest row from the last of a crowd on, of whom nobody is in it but he. */
        private int longest(int live, int crowd, int last, int n) {
            int next = follower(live, crowd, last, n);
            return next == NONE ? 1 : 1 + best[(crowd | 1 << next) * CROWD + next];
        }

        /** The first of those behind whom the row is longest. */
        private int follower(int live, int crowd, int last, int n) {
            int who = NONE;
            int most = 0;
            for (int p = 0; p < CROWD; p++) {
                boolean free = (live >> p & 1) == 1 && (crowd >> p & 1) == 0;
                if (free && (last == NONE || fars[p * CROWD + last] >= n)) {
                    int behind = best[(crowd | 1 << p) * CROWD + p];
                    who = behind > most ? p : who;
                    most = Math.max(most, behind);
                }
            }
            return who;
        }

        boolean isMild(Realm realm, Law law, int person, int n) {
            for (int p = 0; p < realm.persons; p++) {
                if (realm.lives(p) && p != person && law.between(realm, person, p) > n) {
                    return false;
                }
            }
            return true;
        }

        /** What one gets of n by LAND among some (bits). */
        int share(Realm realm, Law law, int person, int among, int n) {
            for (int p = 0; p < CROWD; p++) {
                boolean claiming = realm.lives(p) && (among >> p & 1) == 1;
                claims[p] = claiming ? law.fromDuke(realm, p) : 0;
            }
            int bound = 0;
            for (int b = 1; b <= FAR_MOST && given(b) <= n; b++) {
                bound = b;
            }
            return person >= 0 && person < CROWD ? Math.min(claims[person], bound) : 0;
        }

        private int given(int bound) {
            int sum = 0;
            for (int p = 0; p < CROWD; p++) {
                sum += Math.min(claims[p], bound);
            }
            return sum;
        }
    }

    /** All NOSES, TEMPERS and CATS gone through: what somebody may feign, what a DUKE was like. */
    private static final class Guess {
        private static final int NUMBERS = 10;

        private final int[] met = new int[FAR_MOST + 1];
        /** How far each number of each TRAIT is from what one shows: made once for a thousand kinds. */
        private final int[] gaps = new int[TRAITS * NUMBERS];
        final int[] fit = new int[KINDS];
        int many = 0;
        int asked = NONE;
        int leftAtWorst = NONE;

        private static int traitOf(int kind, int trait) {
            switch (trait) {
                case 0: return kind / 100;
                case 1: return kind / 10 % 10;
                default: return kind % 10;
            }
        }

        /** By how much (what 0), or with which numbers (1), one would be HEIR. */
        int leastFeint(Realm realm, Law law, int person, int what) {
            if (realm.duke == NONE || realm.duke == person || !realm.lives(person)) {
                return NONE;
            }
            int needed = neededFar(realm, law, person);
            mind(realm, realm.duke);
            // More than anybody can change.
            int least = TRAITS * NUMBERS;
            int numbers = NONE;
            for (int kind = 0; kind < KINDS; kind++) {
                int by = changed(realm, person, kind);
                if (by < least && farIfShown(realm, law, person, kind) >= needed) {
                    least = by;
                    numbers = kind;
                }
            }
            return what == 1 || numbers == NONE ? numbers : least;
        }

        /** How FAR from the DUKE one must be to be ahead of all others. */
        private int neededFar(Realm realm, Law law, int person) {
            int needed = 0;
            for (int p = 0; p < realm.persons; p++) {
                if (realm.lives(p) && p != person && p != realm.duke) {
                    int far = law.fromDuke(realm, p);
                    needed = Math.max(needed, p < person ? far + 1 : far);
                }
            }
            return needed;
        }

        private int changed(Realm realm, int person, int kind) {
            int sum = 0;
            for (int t = 0; t < TRAITS; t++) {
                sum += Math.abs(traitOf(kind, t) - realm.shown(person, t));
            }
            return sum;
        }

        private int farIfShown(Realm realm, Law law, int person, int kind) {
            int feints = 0;
            for (int t = 0; t < TRAITS; t++) {
                feints += traitOf(kind, t) == realm.own(person, t) ? 0 : 1;
            }
            law.suppose(feints, realm.years(person), realm.reign, realm.year, person);
            return farFromKind(law, kind);
        }

        private void mind(Realm realm, int person) {
            for (int i = 0; i < gaps.length; i++) {
                gaps[i] = Math.abs(i % NUMBERS - realm.shown(person, i / NUMBERS));
            }
        }

        /** FAR between a kind and the one who is minded, for that one of both whom the LAW regards. */
        private int farFromKind(Law law, int kind) {
            if (kind < 0 || kind >= KINDS) {
                return NONE;
            }
            return law.measured(gaps[kind / 100], gaps[NUMBERS + kind / 10 % 10], gaps[2 * NUMBERS + kind % 10]);
        }

        /** Finds all kinds of DUKES by which all lines of a BOOK are right. */
        void seek(Realm realm, Law law, Book book) {
            for (int kind = 0; kind < KINDS; kind++) {
                fit[kind] = kind;
            }
            many = KINDS;
            for (int p = 0; p < CROWD; p++) {
                if (book.has(p)) {
                    sift(realm, law, p, book.farOf(p));
                }
            }
        }

        private void sift(Realm realm, Law law, int person, int far) {
            int kept = 0;
            law.regard(realm, person);
            mind(realm, person);
            for (int i = 0; i < many && i < fit.length; i++) {
                if (realm.has(person) && farFromKind(law, fit[i]) == far) {
                    fit[kept] = fit[i];
                    kept++;
                }
            }
            many = kept;
        }

        void chooseWhomToAsk(Realm realm, Law law, Book book) {
            asked = NONE;
            leftAtWorst = NONE;
            for (int p = 0; p < realm.persons; p++) {
                int left = book.has(p) ? NONE : worstLeft(realm, law, p);
                if (left != NONE && (asked == NONE || left < leftAtWorst)) {
                    asked = p;
                    leftAtWorst = left;
                }
            }
        }

        private int worstLeft(Realm realm, Law law, int person) {
            for (int far = 0; far < met.length; far++) {
                met[far] = 0;
            }
            int worst = 0;
            law.regard(realm, person);
            mind(realm, person);
            for (int i = 0; i < many && i < fit.length; i++) {
                int far = farFromKind(law, fit[i]);
                if (far >= 0 && far < met.length) {
                    met[far]++;
                    worst = Math.max(worst, met[far]);
                }
            }
            return worst;
        }
    }

    /** CENTURIES by SEEDS. */
    private static final class Chronicle {
        private int seed = 0;

        void run(Realm realm, Law law, int from, int years, int q) {
            seed = from;
            for (int i = 0; i < years; i++) {
                int a = drawn(CROWD);
                int b = drawn(CROWD);
                realm.bear(a, b);
                if (drawn(16) < q) {
                    realm.bury(drawn(CROWD), law);
                }
                realm.passYear();
            }
        }

        /** By a power of two. */
        private int drawn(int by) {
            seed = seed * 1103515245 + 12345;
            return (seed >>> 16 & 32767) & (by - 1);
        }
    }
}
