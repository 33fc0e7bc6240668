/** The edges that promises 1 to 10 and 39 to 42 name, each by its number. */
public final class StateEdgesTest {
    private static final String FOUR = "person 1 2 3;person 9 2 3;person 4 8 0;person 5 5 5;duke 1;land 33;";
    private static final int[] FAR_AWAY = {Integer.MIN_VALUE, Integer.MIN_VALUE + 1, -2, Integer.MAX_VALUE - 1,
        Integer.MAX_VALUE};

    public static void main(String[] args) {
        newObject();
        feed();
        feedFull();
        dukedom();
        dukedomFault();
        dukedomForgets();
        law();
        work();
        workFull();
        workFault();
        book();
        wrongLengths();
        fault();
        undo();
        undoAll();
        told();
        toldRefused();
        person();
        image();
        imageOfAll();
        restore();
        restoreWorks();
        status();
        statusStays();
        count();
        Checks.end();
    }

    /** An object with a LAW, a BOOK, WORK, an IMAGE and a FAULT. */
    private static FarthestHeir used() {
        FarthestHeir h = Checks.ruled(FOUR);
        Checks.law(h, "nose * 3 + person");
        Checks.book(h, "0 3;2 8;");
        h.image();
        Checks.work(h, "year;feign 0 0 7;birth 0 2;die 1;die 1;");
        Checks.law(h, "nose + (");
        return h;
    }

    private static void newObject() {
        Checks.of("Promise 1: A DUKEDOM without CLAUSES");
        FarthestHeir h = new FarthestHeir();
        int[] told = {0, 0, -1, 0, -1, 0, 0, 0, 10, 0, 0};
        for (int what = 0; what < told.length; what++) {
            Checks.due("told " + what, h.told(what), told[what]);
        }
        Checks.due("fault", h.fault(), -1);
        Checks.due("count", h.count(0) + h.count(1) + h.count(2), 0);
        Checks.due("status", h.status(0) + h.status(1), 0);
        FarthestHeir none = used();
        Checks.due("an empty text", none.dukedom(0), 0);
        Checks.same("a DUKEDOM without CLAUSES", Picture.withTape(none), Picture.withTape(h));
        FarthestHeir other = new FarthestHeir();
        Checks.due("objects share nothing", other.undo(), -1);
    }

    private static void feed() {
        Checks.of("Promise 2: Twenty bytes come on the TAPE, of each number the highest first: how many there are");
        FarthestHeir h = new FarthestHeir();
        // "land 9" and 14 blanks, ";" at the end of the next twenty.
        Checks.due("twenty", h.feed(0x6c616e64, 0x20392020, 0x20202020, 0x20202020, 0x20202020), 20);
        Checks.due("forty", h.feed(0x20202020, 0x20202020, 0x20202020, 0x20202020, 0x2020203b), 40);
        Checks.due("read", h.dukedom(40), 0);
        Checks.due("land", h.told(8), 9);
        Checks.due("twenty again", h.feed(-1, Integer.MIN_VALUE, Integer.MAX_VALUE, 0, 1), 20);
        Checks.due("a byte of 255", h.dukedom(20), -9);
        Checks.due("at 0", h.fault(), 0);
        h.feed(0x202020ff, 0, 0, 0, 0);
        Checks.due("the lowest byte", h.dukedom(4), -9);
        Checks.due("at 3", h.fault(), 3);
        for (int i = 0; i < 20; i++) {
            int[] numbers = {0x20202020, 0x20202020, 0x20202020, 0x20202020, 0x20202020};
            numbers[i / 4] ^= 0x80 << (24 - 8 * (i % 4));
            h.feed(numbers[0], numbers[1], numbers[2], numbers[3], numbers[4]);
            Checks.due("a byte of 160", h.dukedom(20), -9);
            Checks.due("the byte's place", h.fault(), i);
        }
    }

    private static void feedFull() {
        Checks.of("Promise 2: NONE, doing nothing, if there would be more than 600");
        FarthestHeir h = new FarthestHeir();
        for (int i = 1; i <= 29; i++) {
            Checks.due("feed " + i, h.feed(0x20202020, 0x20202020, 0x20202020, 0x20202020, 0x20202020), 20 * i);
        }
        Checks.due("the last that fits", h.feed(0x20202020, 0x20202020, 0x20202020, 0x206c616e, 0x6420373b), 600);
        for (int i = 0; i < 3; i++) {
            Checks.due("too many", h.feed(0x6c616e64, 0x20383b20, 0x20202020, 0x20202020, 0x20202020), -1);
            Checks.due("bytes", h.count(1), 600);
        }
        Checks.due("what was fed before", h.dukedom(600), 0);
        Checks.due("land", h.told(8), 7);
        Checks.due("room again", h.feed(0, 0, 0, 0, 0), 20);
        for (int i = 2; i <= 30; i++) {
            h.feed(0, 0, 0, 0, 0);
        }
        Checks.due("full again", h.feed(0, 0, 0, 0, 0), -1);
        Checks.due("nothing refused", h.status(0) + h.status(1), 0);
    }

    private static void dukedom() {
        Checks.of("Promise 3: The first n bytes of the TAPE (empty then) are the DUKEDOM: how many PERSONS");
        FarthestHeir h = Checks.ruled(FOUR);
        Checks.feed(h, "person 1 2 3;person 4 5 6;");
        Checks.due("the first 13", h.dukedom(13), 1);
        Checks.due("the rest is gone", h.count(1), 0);
        Checks.feed(h, FOUR);
        Checks.due("the first 0", h.dukedom(0), 0);
        Checks.due("all is gone", h.count(1), 0);
        Checks.due("0 of none", h.dukedom(0), 0);
        h.feed(0x20202020, 0x20202020, 0x20202020, 0x20202020, 0x20202020);
        Checks.due("all there are", h.dukedom(20), 0);
    }

    private static void dukedomFault() {
        Checks.of("Promise 3: or the FAULT less 10 (all stays)");
        String[] texts = {"x", "person 10", "person 0 0 0;land 9;duke 0;x", Checks.times("person 0 0 0;", 9),
            Checks.times("land 5;", 61)};
        int[] due = {-9, -8, -9, -7, -7};
        int[] places = {0, 7, 27, 104, 420};
        for (int i = 0; i < texts.length; i++) {
            FarthestHeir h = used();
            String before = Picture.ofAll(h);
            Checks.due("dukedom '" + texts[i] + "'", Checks.dukedom(h, texts[i]), due[i]);
            Checks.due("fault of '" + texts[i] + "'", h.fault(), places[i]);
            Checks.due("TAPE", h.count(1), 0);
            Checks.same("all", Picture.ofAll(h), before);
            Checks.due("the WORK can be undone", h.undo(), 0);
            Checks.due("the IMAGE can be restored", h.restore(), 0);
        }
    }

    private static void dukedomForgets() {
        Checks.of("Promise 3: the DUKEDOM (YEAR 0; no LAW, BOOK, IMAGES, nothing to undo)");
        FarthestHeir h = used();
        Checks.dukedom(h, FOUR);
        Checks.same("as a new one", Picture.withTape(h), Picture.withTape(Checks.ruled(FOUR)));
        Checks.due("nothing to undo", h.undo(), -1);
        Checks.due("no image", h.restore(), -1);
        Checks.due("no law", h.far(0, 1), 8);
        Checks.due("no book", h.like(0), 1000);
        for (int i = 1; i <= 3; i++) {
            Checks.due("images from the first on", h.image(), i);
        }
        for (int i = 1; i <= 16; i++) {
            Checks.due("works from the first on", Checks.work(h, "year;"), 1);
        }
        Checks.due("full", Checks.work(h, "year;"), -20);
        Checks.dukedom(h, FOUR);
        Checks.due("room again", Checks.work(h, "year;"), 1);
        Checks.due("room again", h.image(), 1);
    }

    private static void law() {
        Checks.of("Promise 4: Likewise the LAW (n to 150): 1");
        FarthestHeir h = used();
        Checks.due("a law", Checks.law(h, "7"), 1);
        Checks.due("it rules", h.far(0, 0), 7);
        Checks.due("no fault", h.fault(), -1);
        String before = Picture.ofAll(h);
        String[] texts = {"", "8+", "1000", "8 8", "(((((((8"};
        int[] due = {-9, -9, -8, -9, -7};
        for (int i = 0; i < texts.length; i++) {
            Checks.due("law '" + texts[i] + "'", Checks.law(h, texts[i]), due[i]);
            Checks.due("TAPE", h.count(1), 0);
            Checks.same("all", Picture.ofAll(h), before);
        }
        Checks.feed(h, "8*9");
        Checks.due("the first byte alone", h.law(1), 1);
        Checks.due("8", h.far(0, 0), 8);
        Checks.due("TAPE", h.count(1), 0);
        Checks.feed(h, "9");
        Checks.due("no byte is no law", h.law(0), -9);
        Checks.due("at 0", h.fault(), 0);
        Checks.due("still 8", h.far(0, 0), 8);
        Checks.undone(h, 1);
        Checks.due("not undone", h.far(0, 0), 8);
        h.restore();
        Checks.due("not restored", h.far(0, 0), 8);
    }

    private static void work() {
        Checks.of("Promise 5: how many STEPS were done (agains not counted, nor REFUSED ones)");
        FarthestHeir h = Checks.ruled(FOUR);
        Checks.due("none", Checks.work(h, ""), 0);
        Checks.due("a WORK though", h.count(2), 1);
        Checks.due("agains", Checks.work(h, "again 3[again 2[];];"), 0);
        Checks.due("a WORK though", h.count(2), 2);
        Checks.due("refused ones", Checks.work(h, "die 7;drop 0;year;"), 1);
        Checks.due("all refused", Checks.work(h, "die 7;"), 0);
        Checks.due("a WORK though", h.count(2), 4);
        Checks.feed(h, "year;year;");
        Checks.due("the first 5 bytes", h.work(5), 1);
        Checks.due("TAPE", h.count(1), 0);
        Checks.feed(h, "year;year;");
        Checks.due("the first 0 bytes", h.work(0), 0);
        Checks.due("TAPE", h.count(1), 0);
        Checks.due("a WORK though", h.count(2), 6);
    }

    private static void workFull() {
        Checks.of("Promise 5: -20 ahead of that (nothing is read, there is no FAULT, the TAPE is empty then): 16 WORKS are there");
        FarthestHeir h = Checks.ruled(FOUR);
        for (int i = 1; i <= 16; i++) {
            Checks.due("work " + i, Checks.work(h, "year;die 7;"), 1);
        }
        Checks.law(h, "(");
        String before = Picture.ofAll(h);
        String[] texts = {"year;", "", "x", "die 8;"};
        for (String text : texts) {
            Checks.due("the 17th", Checks.work(h, text), -20);
            Checks.due("no fault", h.fault(), -1);
            Checks.due("TAPE", h.count(1), 0);
            Checks.same("all", Picture.ofAll(h), before);
        }
        Checks.of("Promise 5: likewise (n to 150), the TAPE stays: a wrong n is refused with 16 WORKS, too");
        h.feed(0, 0, 0, 0, 0);
        Checks.illegal("more than there are", () -> h.work(21));
        Checks.illegal("less than none", () -> h.work(-1));
        Checks.due("TAPE", h.count(1), 20);
        Checks.due("a right n", h.work(20), -20);
        Checks.of("Promise 5: 16 WORKS are there that were not undone");
        Checks.due("undone", h.undo(), 15);
        Checks.due("a faulty one is none", Checks.work(h, "x"), -9);
        Checks.due("the 16th again", Checks.work(h, "year;"), 1);
        Checks.due("the 17th again", Checks.work(h, "year;"), -20);
        h.image();
        Checks.undone(h, 16);
        Checks.due("the first again", Checks.work(h, "year;"), 1);
        h.restore();
        Checks.due("restored with its 16", Checks.work(h, "year;"), -20);
    }

    private static void workFault() {
        Checks.of("Promise 5: or the FAULT less 10 (none is done)");
        String[] texts = {"year;x", "year;die 8;", "year;" + Checks.times("again 1[", 7), "year"};
        int[] due = {-9, -8, -7, -9};
        int[] places = {5, 9, 53, 4};
        FarthestHeir h = used();
        String before = Picture.ofAll(h);
        for (int i = 0; i < texts.length; i++) {
            Checks.due("work '" + texts[i] + "'", Checks.work(h, texts[i]), due[i]);
            Checks.due("fault of '" + texts[i] + "'", h.fault(), places[i]);
            Checks.due("TAPE", h.count(1), 0);
            Checks.same("all", Picture.ofAll(h), before);
        }
    }

    private static void book() {
        Checks.of("Promise 6: Likewise the BOOK (n to 60): how many lines");
        FarthestHeir h = used();
        Checks.due("eight", Checks.book(h, "7 0;6 0;5 0;4 0;3 0;2 0;1 0;0 0;"), 8);
        Checks.due("told", h.told(9), 8);
        String before = Picture.ofAll(h);
        String[] texts = {"x", "0 1;0 1;", "8 0;", "0 100;", "0 1"};
        int[] due = {-9, -8, -8, -8, -9};
        for (int i = 0; i < texts.length; i++) {
            Checks.due("book '" + texts[i] + "'", Checks.book(h, texts[i]), due[i]);
            Checks.due("TAPE", h.count(1), 0);
            Checks.same("all", Picture.ofAll(h), before);
        }
        Checks.feed(h, "0 1;1 1;");
        Checks.due("the first line", h.book(4), 1);
        Checks.due("told", h.told(9), 1);
        Checks.feed(h, "0 1;1 1;");
        Checks.due("no line", h.book(0), 0);
        Checks.due("told", h.told(9), 0);
        Checks.due("all are like that", h.like(0), 1000);
    }

    private static void wrongLengths() {
        Checks.of("Promises 3 to 6: IllegalArgumentException: n is not 0 to the TAPE's bytes (it stays)");
        lengths(0, 0);
        lengths(20, 20);
        Checks.of("Promises 4 to 6: n to 150, to 60, however many bytes there are");
        lengths(160, 150);
        FarthestHeir h = new FarthestHeir();
        Checks.feed(h, Checks.times(" ", 160));
        Checks.due("the most of a law is read", h.law(150), -9);
        Checks.due("to its end", h.fault(), 150);
        Checks.feed(h, Checks.times(" ", 160));
        Checks.due("the most of work is read", h.work(150), 0);
        Checks.feed(h, Checks.times(" ", 160));
        Checks.due("the most of a book is read", h.book(60), 0);
        Checks.feed(h, Checks.times(" ", 600));
        Checks.due("the most of a dukedom is read", h.dukedom(600), 0);
    }

    private static void lengths(int bytes, int most) {
        FarthestHeir h = used();
        Checks.feed(h, Checks.times(" ", bytes));
        String before = Picture.withTape(h);
        int refused = h.status(1);
        Checks.illegal("dukedom", () -> h.dukedom(bytes + 1));
        Checks.illegal("dukedom", () -> h.dukedom(-1));
        Checks.illegal("law", () -> h.law(most + 1));
        Checks.illegal("law", () -> h.law(-1));
        Checks.illegal("work", () -> h.work(most + 1));
        Checks.illegal("work", () -> h.work(-1));
        Checks.illegal("book", () -> h.book(Math.min(60, most) + 1));
        Checks.illegal("book", () -> h.book(-1));
        for (int n : FAR_AWAY) {
            Checks.illegal("dukedom", () -> h.dukedom(n));
            Checks.illegal("law", () -> h.law(n));
            Checks.illegal("work", () -> h.work(n));
            Checks.illegal("book", () -> h.book(n));
        }
        Checks.due("each is counted", h.status(1) - refused, 8 + 4 * FAR_AWAY.length);
        Checks.same("all stays, the TAPE too", Picture.withTape(h), before);
    }

    private static void fault() {
        Checks.of("Promise 7: The place of the FAULT of the latest text; NONE without");
        FarthestHeir h = Checks.ruled(FOUR);
        Checks.due("without", h.fault(), -1);
        Checks.law(h, "1+x");
        Checks.due("of a law", h.fault(), 2);
        Checks.illegal("no text", () -> h.law(1));
        Checks.due("it stays", h.fault(), 2);
        Checks.feed(h, "0 1;");
        h.undo();
        h.image();
        h.restore();
        h.like(0);
        Checks.due("it stays", h.fault(), 2);
        h.book(4);
        Checks.due("of a book", h.fault(), -1);
        Checks.work(h, "x");
        Checks.due("the first byte", h.fault(), 0);
        Checks.work(h, "year;");
        Checks.due("of work", h.fault(), -1);
        Checks.dukedom(h, "land");
        Checks.due("of a dukedom", h.fault(), 4);
        Checks.dukedom(h, "land 1;");
        Checks.due("of a dukedom", h.fault(), -1);
        Checks.dukedom(h, Checks.times(" ", 595) + "land");
        Checks.due("the farthest place", h.fault(), 599);
        Checks.feed(h, Checks.times(" ", 596) + "land");
        Checks.due("the farthest place", h.dukedom(600), -9);
        Checks.due("the farthest place", h.fault(), 600);
    }

    private static void undo() {
        Checks.of("Promise 8: The latest WORK that was done is undone: how many are left; -1: there is none");
        FarthestHeir h = Checks.ruled("person 1 2 3;person 9 2 3;");
        Checks.due("none at first", h.undo(), -1);
        String[] pictures = new String[16];
        for (int i = 0; i < 16; i++) {
            pictures[i] = i % 5 == 0 ? Picture.ofWork(h) : "";
            Checks.work(h, "birth " + (i == 0 ? "0 1" : "0 0") + ";feign " + i % 3 + " 1 " + i % 10 + ";year;die " + i / 8 + ";");
            Checks.work(h, "a fault");
        }
        for (int left = 15; left >= 0; left--) {
            Checks.due("left", h.undo(), left);
            Checks.due("they can be undone", h.count(2), left);
            Checks.same("as it was", left % 5 == 0 ? Picture.ofWork(h) : "", pictures[left]);
        }
        Checks.due("none at last", h.undo(), -1);
        Checks.same("nothing done", Picture.ofWork(h), pictures[0]);
    }

    private static void undoAll() {
        Checks.of("Promise 8: a WORK of none, and one that changed nothing, is undone, too; an empty DUKEDOM has WORKS, too");
        FarthestHeir h = new FarthestHeir();
        Checks.work(h, "");
        Checks.work(h, "die 0;");
        Checks.work(h, "year;");
        Checks.due("two left", h.undo(), 2);
        Checks.due("one left", h.undo(), 1);
        Checks.due("none left", h.undo(), 0);
        Checks.due("there is none", h.undo(), -1);
        Checks.work(h, "year;");
        Checks.work(h, "year;");
        h.undo();
        Checks.work(h, "again 5[year;];");
        Checks.due("one left", h.undo(), 1);
        Checks.due("a year", h.told(5), 1);
    }

    private static void told() {
        Checks.of("Promise 9: IllegalArgumentException: another what");
        FarthestHeir h = used();
        Checks.range(h, "told", 0, 10, h::told);
        Checks.of("Promise 9: 2 the DUKE (NONE), 3 how long he rules (0 without), 4 HEIR (NONE)");
        FarthestHeir last = Checks.ruled("person 3 3 3;");
        Checks.work(last, "year;");
        int[] one = {1, 1, 0, 1, -1, 1, 0, 1, 10, 0, 0};
        for (int what = 0; what < one.length; what++) {
            Checks.due("told of one " + what, last.told(what), one[what]);
        }
        Checks.work(last, "feign 0 0 4;die 0;");
        int[] none = {1, 0, -1, 0, -1, 1, 1, 1, 10, 0, 0};
        for (int what = 0; what < none.length; what++) {
            Checks.due("told of a dead one " + what, last.told(what), none[what]);
        }
        Checks.of("Promise 9: 1 who live, 6 who feigns anything (bits)");
        FarthestHeir eight = Checks.ruled(Checks.times("person 3 3 3;", 8));
        Checks.work(eight, "feign 0 0 0;feign 7 2 9;");
        Checks.due("all eight", eight.told(1), 255);
        Checks.due("the first and the last", eight.told(6), 129);
        Checks.work(eight, "die 7;drop 0;");
        Checks.due("but the last", eight.told(1), 127);
        Checks.due("a dead one feigns still", eight.told(6), 128);
    }

    private static void toldRefused() {
        Checks.of("Promise 9: 10 STEPS REFUSED by the latest WORK (0 ahead of any, behind undo(), restore())");
        FarthestHeir h = Checks.ruled(FOUR);
        Checks.due("ahead of any", h.told(10), 0);
        Checks.work(h, "die 7;drop 0;");
        Checks.due("two", h.told(10), 2);
        Checks.work(h, "year;");
        Checks.due("by the latest", h.told(10), 0);
        Checks.work(h, "die 7;");
        Checks.due("one", h.told(10), 1);
        h.undo();
        Checks.due("behind undo()", h.told(10), 0);
        h.undo();
        Checks.due("not that of the one ahead", h.told(10), 0);
        Checks.work(h, "die 7;drop 0;drop 1;");
        h.image();
        Checks.due("image() leaves it", h.told(10), 3);
        Checks.work(h, "die 7;");
        h.restore();
        Checks.due("behind restore()", h.told(10), 0);
        Checks.work(h, "again 60[die 7;];again 60[die 7;];again 60[die 7;];again 60[die 7;];");
        Checks.due("the most", h.told(10), 196);
    }

    private static void person() {
        Checks.of("Promise 10: NoSuchElementException: no such PERSON (ahead of others)");
        FarthestHeir h = used();
        Checks.persons(h, "person", p -> h.person(p, 0));
        Checks.range(h, "person", 0, 9, what -> h.person(0, what));
        Checks.noSuch("both are wrong", () -> h.person(5, 10));
        Checks.noSuch("both are wrong", () -> h.person(-1, -1));
        Checks.of("Promise 10: of one who is dead, and of one who is born");
        Checks.due("dead", h.person(1, 7), 0);
        Checks.due("its age", h.person(1, 6), 21);
        Checks.due("born", h.person(4, 6), 0);
        Checks.of("Promise 10: 9 FAR from the DUKE (0: it is the DUKE, or there is none)");
        Checks.law(h, "9 + nose");
        Checks.due("the duke", h.person(h.told(2), 9), 0);
        Checks.due("a dead one", h.person(1, 9), 9 + Math.abs(9 - h.person(h.told(2), 0)));
        Checks.work(h, "die 0;die 2;die 3;die 4;");
        for (int p = 0; p < 5; p++) {
            Checks.due("there is none", h.person(p, 9), 0);
        }
        FarthestHeir none = new FarthestHeir();
        Checks.noSuch("nobody", () -> none.person(0, 0));
    }

    private static void image() {
        Checks.of("Promise 39: how many there are; -1: there are 3");
        FarthestHeir h = used();
        Checks.due("one there", h.count(0), 1);
        Checks.due("the second", h.image(), 2);
        Checks.due("the third", h.image(), 3);
        String before = Picture.withTape(h);
        Checks.due("no fourth", h.image(), -1);
        Checks.due("no fourth", h.image(), -1);
        Checks.same("nothing done", Picture.withTape(h), before);
        Checks.due("one gone", h.restore(), 2);
        Checks.due("the third again", h.image(), 3);
        Checks.due("no fourth", h.image(), -1);
        Checks.due("of nobody", new FarthestHeir().image(), 1);
    }

    private static void imageOfAll() {
        Checks.of("Promise 39: An IMAGE of all that WORK changes, and of WORKS that can be undone");
        FarthestHeir h = used();
        String before = Picture.ofWork(h);
        h.image();
        Checks.work(h, "die 0;feign 2 0 9;feign 3 2 0;birth 2 3;again 9[year;];drop 0;");
        Checks.work(h, "die 2;");
        Checks.law(h, "4");
        Checks.book(h, "1 1;");
        Checks.due("one left", h.restore(), 1);
        Checks.same("as it was", Picture.ofWork(h), before);
        Checks.due("the law stays", h.far(0, 1), 4);
        Checks.due("the book stays", h.told(9), 1);
        Checks.due("the land stays", h.told(8), 33);
        Checks.due("its WORK can be undone", h.undo(), 0);
        Checks.due("the year ahead of it", h.told(5), 0);
    }

    private static void restore() {
        Checks.of("Promise 40: as in the latest IMAGE, which is gone: how many are left; -1: there is none");
        FarthestHeir h = Checks.ruled(FOUR);
        Checks.due("none at first", h.restore(), -1);
        for (int i = 0; i < 3; i++) {
            h.image();
            Checks.work(h, "year;");
        }
        for (int i = 2; i >= 0; i--) {
            Checks.due("left", h.restore(), i);
            Checks.due("the year", h.told(5), i);
            Checks.due("works", h.count(2), i);
        }
        Checks.work(h, "year;");
        String before = Picture.withTape(h);
        Checks.due("none at last", h.restore(), -1);
        Checks.same("nothing done", Picture.withTape(h), before);
    }

    private static void restoreWorks() {
        Checks.of("Promise 40: WORKS undone behind the IMAGE can be undone again");
        FarthestHeir h = Checks.ruled(FOUR);
        for (int i = 0; i < 16; i++) {
            Checks.work(h, "year;");
        }
        h.image();
        h.image();
        Checks.undone(h, 16);
        Checks.work(h, "die 0;");
        h.restore();
        Checks.due("sixteen", h.count(2), 16);
        Checks.due("full", Checks.work(h, "year;"), -20);
        for (int i = 15; i >= 0; i--) {
            Checks.due("left", h.undo(), i);
            Checks.due("the year", h.told(5), i);
        }
        Checks.due("there is none", h.undo(), -1);
        Checks.due("the other one", h.restore(), 0);
        Checks.due("sixteen", h.count(2), 16);
        Checks.due("the year", h.told(5), 16);
    }

    private static void status() {
        Checks.of("Promise 41: How many calls were refused: NONE for others");
        FarthestHeir h = used();
        Checks.due("none at first", h.status(0), 0);
        Checks.due("none at first", h.status(1), 0);
        Checks.due("another", h.status(2), -1);
        Checks.due("another", h.status(-1), -1);
        for (int what : FAR_AWAY) {
            Checks.due("another", h.status(what), -1);
        }
        Checks.due("no refusal", h.status(0) + h.status(1), 0);
        Checks.noSuch("one", () -> h.masks(9));
        Checks.due("one of these", h.status(0), 1);
        Checks.due("none of those", h.status(1), 0);
        Checks.illegal("one", () -> h.told(11));
        Checks.due("one of these", h.status(0), 1);
        Checks.due("one of those", h.status(1), 1);
        Checks.noSuch("both wrong count once", () -> h.land(9, -1, -1));
        Checks.noSuch("both wrong count once", () -> h.far(9, 9));
        Checks.illegal("all wrong count once", () -> h.span(0, 0, 0, -1, -1, -1));
        Checks.due("three of these", h.status(0), 3);
        Checks.due("two of those", h.status(1), 2);
    }

    private static void statusStays() {
        Checks.of("Promise 41: FAULTS, -20, NONE and -1 are no refusals; no IMAGE keeps it");
        FarthestHeir h = used();
        Checks.illegal("one", () -> h.told(11));
        h.image();
        Checks.illegal("two", () -> h.told(11));
        Checks.noSuch("one", () -> h.mate(9));
        h.restore();
        h.undo();
        Checks.law(h, "x");
        Checks.work(h, "x");
        Checks.book(h, "x");
        Checks.dukedom(h, "x");
        h.restore();
        h.restore();
        Checks.undone(h, 2);
        Checks.work(h, "die 7;");
        Checks.due("one", h.status(0), 1);
        Checks.due("two", h.status(1), 2);
        Checks.dukedom(h, FOUR);
        Checks.due("one still", h.status(0), 1);
        Checks.due("two still", h.status(1), 2);
        for (int i = 0; i < 17; i++) {
            Checks.work(h, "");
        }
        for (int i = 0; i < 31; i++) {
            h.feed(0, 0, 0, 0, 0);
        }
        Checks.due("two still", h.status(1), 2);
    }

    private static void count() {
        Checks.of("Promise 42: 0 IMAGES, 1 bytes of the TAPE, 2 WORKS that can be undone; NONE for others");
        FarthestHeir h = used();
        h.feed(0, 0, 0, 0, 0);
        Checks.due("images", h.count(0), 1);
        Checks.due("bytes", h.count(1), 20);
        Checks.due("works", h.count(2), 1);
        Checks.due("another", h.count(3), -1);
        Checks.due("another", h.count(-1), -1);
        for (int what : FAR_AWAY) {
            Checks.due("another", h.count(what), -1);
        }
        Checks.due("no refusal", h.status(0) + h.status(1), 0);
        h.restore();
        Checks.due("no images", h.count(0), 0);
        Checks.due("no works", h.count(2), 0);
        Checks.due("bytes stay", h.count(1), 20);
        h.book(0);
        Checks.due("no bytes", h.count(1), 0);
    }
}
