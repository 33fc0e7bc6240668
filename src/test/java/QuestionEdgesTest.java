/** The edges that 'Terms', ==== 3., names: what is asked of nobody, of one, of two, of eight; ties; limits of FAR. */
public final class QuestionEdgesTest {
    private static final String EIGHT = Checks.times("person 3 3 3;", 8);
    private static final String LINE = "person 0 0 0;person 1 0 0;person 2 0 0;person 3 0 0;"
            + "person 4 0 0;person 5 0 0;person 6 0 0;person 7 0 0;";

    public static void main(String[] args) {
        nothingStays();
        feint();
        feintOfNone();
        ringOfFew();
        ringOfEight();
        like();
        likeOfNone();
        ask();
        pairsOfFew();
        pairsAlike();
        rowOfFew();
        rowOfEight();
        child();
        middling();
        chance();
        feigning();
        landBound();
        landByNone();
        centuryOfOneYear();
        centuryOfMany();
        Checks.end();
    }

    private static FarthestHeir ruled(String dukedom, String law) {
        FarthestHeir h = Checks.ruled(dukedom);
        Checks.due("law '" + law + "'", Checks.law(h, law), 1);
        return h;
    }

    /** So many alike ones, of whom the first some are dead. */
    private static FarthestHeir alike(int many, int dead) {
        FarthestHeir h = Checks.ruled(Checks.times("person 3 3 3;", many));
        for (int p = 0; p < dead; p++) {
            Checks.work(h, "die " + p + ";");
        }
        return h;
    }

    private static void nothingStays() {
        Checks.of("Asked, nothing stays changed");
        FarthestHeir h = ruled("person 1 2 3;person 9 2 3;person 4 8 0;person 5 5 5;duke 1;land 4;", "nose * person + age");
        Checks.work(h, "feign 0 0 7;year;birth 0 2;die 3;die 3;");
        Checks.book(h, "0 20;");
        h.image();
        h.feed(1, 2, 3, 4, 5);
        String before = Picture.withTape(h);
        for (int what = 0; what < 2; what++) {
            h.ahead(99, what);
            h.feint(0, what);
            h.ring(3, what);
            h.like(what);
            h.ask(what);
            h.child(what);
            h.middling(what);
            h.feigning(9, 4, what);
            h.century(7, 96, 8, what);
            h.span(7, 20, 96, 8, what, 2);
        }
        h.ahead(99, 2);
        h.after(8);
        h.pairs();
        h.mate(0);
        h.row(9);
        h.rowed(9, 1);
        h.land(0, 31, 99);
        h.mild(50);
        h.chance(12, 3, 5, 0);
        h.far(0, 1);
        h.would(9, 9, 9, 3, 999, 900, 900, 8);
        h.span(7, 20, 96, 8, 2, 2);
        Checks.same("all", Picture.withTape(h), before);
    }

    private static void feint(FarthestHeir h, int person, int by, int numbers) {
        Checks.due("feint by " + person, h.feint(person, 0), by);
        Checks.due("feint of " + person, h.feint(person, 1), numbers);
    }

    private static void feint() {
        Checks.of("FEINT: the least by which its TRAITS must be shown otherwise so that it is HEIR; of alike ones the least");
        FarthestHeir h = ruled("person 5 5 5;person 5 5 5;person 5 5 5;", "nose + temper + cat");
        feint(h, 1, 0, 555);
        feint(h, 2, 1, 455);
        Checks.work(h, "feign 1 0 6;");
        feint(h, 1, 0, 655);
        feint(h, 2, 2, 355);
        Checks.work(h, "feign 2 1 0;");
        feint(h, 1, 4, 615);
        feint(h, 2, 0, 505);
        FarthestHeir most = ruled("person 0 0 0;person 0 0 0;person 9 9 9;", "nose + temper + cat");
        feint(most, 1, 27, 999);
        feint(most, 2, 0, 999);
        FarthestHeir least = ruled("person 9 9 9;person 9 9 9;person 0 0 0;", "nose + temper + cat");
        feint(least, 1, 27, 0);
        FarthestHeir two = ruled("person 3 3 3;person 3 3 3;", "0");
        feint(two, 1, 0, 333);
        Checks.of("FEINT: how far each N is from what it shows now");
        Checks.work(two, "feign 1 0 8;");
        feint(two, 1, 0, 833);
        Checks.of("FEINT: feints in the LAW as were it so");
        FarthestHeir plain = ruled("person 0 0 0;person 0 0 0;person 7 7 7;", "3 - feints");
        Checks.work(plain, "feign 1 0 9;feign 1 1 9;feign 1 2 9;");
        feint(plain, 1, 27, 0);
        FarthestHeir masked = ruled("person 0 0 0;person 0 0 0;person 7 7 7;", "feints");
        feint(masked, 2, 1, 677);
        Checks.work(masked, "feign 1 0 9;feign 1 1 9;feign 1 2 9;");
        feint(masked, 2, -1, -1);
    }

    private static void feintOfNone() {
        Checks.of("FEINT: NONE: by none, or it is the DUKE, or dead");
        FarthestHeir h = ruled("person 1 1 1;person 2 2 2;person 3 3 3;", "5");
        feint(h, 2, -1, -1);
        feint(h, 0, -1, -1);
        feint(h, 1, 0, 222);
        Checks.work(h, "die 1;");
        feint(h, 1, -1, -1);
        feint(h, 2, 0, 333);
        Checks.work(h, "die 0;");
        feint(h, 2, -1, -1);
        Checks.work(h, "die 2;");
        feint(h, 2, -1, -1);
        FarthestHeir behind = ruled("person 0 0 0;person 9 9 9;person 0 0 0;", "nose + temper + cat");
        feint(behind, 2, -1, -1);
        FarthestHeir first = ruled("person 3 3 3;person 3 3 3;person 3 3 3;duke 1;", "0");
        feint(first, 0, 0, 333);
        feint(first, 2, -1, -1);
    }

    private static void ring(FarthestHeir h, int person, int tail, int round) {
        Checks.due("tail of " + person, h.ring(person, 0), tail);
        Checks.due("round of " + person, h.ring(person, 1), round);
    }

    private static void ringOfFew() {
        Checks.of("RING: from it (dead or not) on to who is FAR most from it of all others who live; 0 both: not two live");
        ring(alike(1, 0), 0, 0, 0);
        ring(alike(1, 1), 0, 0, 0);
        FarthestHeir one = alike(3, 2);
        ring(one, 0, 0, 0);
        ring(one, 2, 0, 0);
        ring(alike(2, 0), 1, 0, 2);
        FarthestHeir two = alike(4, 2);
        ring(two, 0, 1, 2);
        ring(two, 1, 1, 2);
        ring(two, 2, 0, 2);
        ring(two, 3, 0, 2);
        Checks.of("RING: of alike ones the first");
        FarthestHeir four = alike(4, 0);
        ring(four, 0, 0, 2);
        ring(four, 1, 0, 2);
        ring(four, 2, 1, 2);
        ring(four, 3, 1, 2);
    }

    private static void ringOfEight() {
        Checks.of("RING: until one is come to that was there already: TAIL: how many steps were made as it was there first");
        FarthestHeir h = ruled(LINE, "(10 - nose) * 8 + person");
        for (int p = 0; p < 8; p++) {
            ring(h, p, Math.max(0, 6 - p), 2);
        }
        Checks.work(h, "die 0;");
        ring(h, 0, 6, 2);
        Checks.of("RING: ROUND: how many more were made then");
        FarthestHeir round = ruled("person 3 0 0;person 4 0 0;person 7 0 0;person 8 0 0;"
                + "person 0 0 0;person 2 0 0;person 9 0 0;person 5 0 0;", "(nose * 18 + person * 7) % 96");
        for (int p = 0; p < 8; p++) {
            ring(round, p, 0, 8);
        }
    }

    private static void like(FarthestHeir h, String book, int many, int first) {
        Checks.due("lines of '" + book + "'", Checks.book(h, book) >= 0 ? 1 : 0, 1);
        Checks.due("like by '" + book + "'", h.like(0), many);
        Checks.due("first like by '" + book + "'", h.like(1), first);
    }

    private static void like() {
        Checks.of("LIKE: all NOSES, TEMPERS and CATS (0 to 9 each) by which all lines are right: how many, the first");
        FarthestHeir h = Checks.ruled("person 0 0 0;person 9 9 9;person 9 0 4;");
        like(h, "", 1000, 0);
        like(h, "0 0;", 1, 0);
        like(h, "1 0;", 1, 999);
        like(h, "2 0;", 1, 904);
        like(h, "0 36;", 1, 999);
        like(h, "0 0;1 36;", 1, 0);
        like(h, "0 1;", 2, 1);
        like(h, "0 36;1 1;", 0, -1);
        Checks.law(h, "100");
        like(h, "0 99;1 99;", 1000, 0);
        like(h, "0 98;", 0, -1);
        Checks.law(h, "0 - nose");
        like(h, "0 0;", 1000, 0);
        Checks.of("LIKE: were that a DUKE who rules as long as this one does");
        Checks.law(h, "reign + year * 10");
        Checks.work(h, "year;year;die 0;year;");
        like(h, "1 31;", 1000, 0);
        Checks.work(h, "die 1;die 2;");
        like(h, "1 30;", 1000, 0);
        Checks.of("LIKE: the DUKE himself may be in a line, as others are");
        FarthestHeir duke = ruled("person 4 4 4;", "7 + nose");
        like(duke, "0 7;", 100, 400);
        like(duke, "0 0;", 0, -1);
    }

    private static void likeOfNone() {
        Checks.of("LIKE: who is no PERSON, is FAR from none: never right");
        FarthestHeir h = ruled("person 3 3 3;person 3 3 3;", "0");
        like(h, "0 0;1 0;", 1000, 0);
        like(h, "0 0;1 0;2 0;", 0, -1);
        like(h, "7 0;", 0, -1);
        Checks.work(h, "birth 0 1;");
        like(h, "2 0;", 1000, 0);
        Checks.work(h, "die 2;");
        like(h, "2 0;", 1000, 0);
        h.undo();
        h.undo();
        Checks.due("not born again", h.like(0), 0);
        FarthestHeir none = new FarthestHeir();
        like(none, "", 1000, 0);
        like(none, "0 0;", 0, -1);
    }

    private static void ask(FarthestHeir h, String book, int whom, int left) {
        Checks.book(h, book);
        Checks.due("ask by '" + book + "'", h.ask(0), whom);
        Checks.due("left by '" + book + "'", h.ask(1), left);
    }

    private static void ask() {
        Checks.of("ASK: the PERSON (dead ones, too) in no line by whom fewest such are left at the worst, of these the first");
        FarthestHeir h = ruled("person 0 0 0;person 5 0 0;person 9 0 0;", "nose");
        ask(h, "", 0, 100);
        ask(h, "0 3;", 1, 100);
        ask(h, "0 3;1 2;", 2, 100);
        ask(h, "1 3;", 0, 100);
        ask(h, "0 3;1 9;", 2, 0);
        ask(h, "0 3;1 2;2 6;", -1, -1);
        ask(h, "2 0;1 0;0 0;", -1, -1);
        Checks.of("ASK: lines of no PERSONS count none of them");
        ask(h, "7 0;6 0;5 0;", 0, 0);
        Checks.of("ASK: however FAR, fewest are left at the worst");
        Checks.work(h, "die 0;");
        ask(h, "", 0, 100);
        Checks.work(h, "feign 0 0 5;");
        ask(h, "", 0, 100);
        FarthestHeir masked = ruled("person 5 0 0;person 4 0 0;person 9 0 0;", "nose");
        ask(masked, "", 2, 100);
        Checks.work(masked, "feign 0 0 9;");
        ask(masked, "", 0, 100);
        FarthestHeir flat = ruled("person 1 1 1;person 2 2 2;", "99");
        ask(flat, "", 0, 1000);
        Checks.of("ASK: NONE both: all are in lines, or there are none");
        ask(flat, "1 0;0 0;", -1, -1);
        ask(new FarthestHeir(), "", -1, -1);
        ask(new FarthestHeir(), "0 0;", -1, -1);
    }

    private static void pairs(FarthestHeir h, int together, int... mates) {
        Checks.due("pairs", h.pairs(), together);
        for (int p = 0; p < mates.length; p++) {
            Checks.due("mate of " + p, h.mate(p), mates[p]);
        }
    }

    private static void pairsOfFew() {
        Checks.of("PAIRS: all who live in twos (one alone, if they are odd)");
        pairs(new FarthestHeir(), 0);
        pairs(alike(1, 0), 0, -1);
        pairs(alike(3, 3), 0, -1, -1, -1);
        pairs(alike(3, 2), 0, -1, -1, -1);
        pairs(alike(3, 1), 0, -1, 2, 1);
        FarthestHeir far = ruled("person 3 3 3;person 3 3 3;", "100");
        pairs(far, 99, 1, 0);
        FarthestHeir three = ruled("person 0 0 0;person 1 0 0;person 9 0 0;", "nose");
        pairs(three, 9, 2, -1, 0);
        FarthestHeir eight = ruled(LINE, "100");
        pairs(eight, 396, 1, 0, 3, 2, 5, 4, 7, 6);
        Checks.of("PAIRS: FAR of the greater number from the lesser one");
        FarthestHeir greater = ruled("person 3 3 3;person 3 3 3;", "person * 10");
        pairs(greater, 10, 1, 0);
        FarthestHeir lesser = ruled("person 3 3 3;person 3 3 3;", "10 - person * 10");
        pairs(lesser, 0, 1, 0);
    }

    private static void pairsAlike() {
        Checks.of("PAIRS: of alike ways the first (by numbers the least mate, none last)");
        pairs(alike(8, 0), 0, 1, 0, 3, 2, 5, 4, 7, 6);
        pairs(alike(7, 0), 0, 1, 0, 3, 2, 5, 4, -1);
        pairs(alike(7, 1), 0, -1, 2, 1, 4, 3, 6, 5);
        pairs(alike(7, 2), 0, -1, -1, 3, 2, 5, 4, -1);
        FarthestHeir four = ruled("person 3 3 3;person 3 3 3;person 3 3 3;person 3 3 3;", "person * 10");
        pairs(four, 50, 2, 3, 0, 1);
        // Whether 0 hangs with 1 or alone is alike: none is last.
        FarthestHeir three = ruled("person 0 0 0;person 0 0 0;person 0 0 0;", "0");
        pairs(three, 0, 1, 0, -1);
        FarthestHeir last = ruled("person 3 3 3;person 3 3 3;person 3 3 3;", "person / 2 * 7");
        pairs(last, 7, 2, -1, 0);
    }

    private static void row(FarthestHeir h, int n, int... due) {
        Checks.due("row " + n, h.row(n), due.length);
        for (int k = 0; k < due.length; k++) {
            Checks.due("rowed " + n + " " + k, h.rowed(n, k), due[k]);
        }
        Checks.due("rowed " + n + " behind", h.rowed(n, due.length), -1);
    }

    private static void rowOfFew() {
        Checks.of("ROW by n: the longest row of PERSONS who live, each one FAR n or more from the one ahead");
        row(new FarthestHeir(), 0);
        row(alike(2, 2), 0);
        row(alike(1, 0), 99, 0);
        row(alike(3, 2), 99, 2);
        row(alike(3, 1), 0, 1, 2);
        row(alike(3, 1), 1, 1);
        FarthestHeir far = ruled("person 3 3 3;person 3 3 3;person 3 3 3;", "99");
        row(far, 99, 0, 1, 2);
        Checks.law(far, "98");
        row(far, 98, 0, 1, 2);
        row(far, 99, 0);
        FarthestHeir three = ruled("person 0 0 0;person 4 0 0;person 9 0 0;", "nose");
        row(three, 4, 0, 1, 2);
        row(three, 5, 0, 2, 1);
        row(three, 6, 0, 2);
        row(three, 9, 0, 2);
        row(three, 10, 0);
    }

    private static void rowOfEight() {
        Checks.of("ROW: nobody twice; of as long ones the first (by numbers)");
        row(alike(8, 0), 0, 0, 1, 2, 3, 4, 5, 6, 7);
        row(ruled(LINE, "nose"), 1, 0, 1, 2, 3, 4, 5, 6, 7);
        row(ruled(LINE, "nose"), 4, 3, 7, 2, 6, 1, 5, 0, 4);
        row(ruled(LINE, "nose"), 7, 0, 7);
        row(ruled(LINE, "nose"), 8, 0);
        Checks.of("ROW: each one FAR n or more from the one ahead");
        row(ruled(LINE, "person * 10"), 50, 0, 5, 6, 7);
        row(ruled(LINE, "70 - person * 10"), 60, 2, 0, 1);
        row(ruled(LINE, "70 - person * 10"), 70, 1, 0);
    }

    private static void child(FarthestHeir h, int two, int far) {
        Checks.due("child of", h.child(0), two);
        Checks.due("child far", h.child(1), far);
    }

    private static void child() {
        Checks.of("CHILD: the two who live (the lesser first) whose child would be FAR most from the DUKE");
        child(new FarthestHeir(), -1, -1);
        child(alike(1, 0), -1, -1);
        child(alike(3, 2), -1, -1);
        child(alike(3, 3), -1, -1);
        child(alike(3, 1), 12, 0);
        child(alike(3, 0), 1, 0);
        FarthestHeir h = ruled("person 0 0 0;person 1 0 0;person 9 0 0;person 9 0 0;", "nose");
        child(h, 23, 9);
        Checks.work(h, "die 3;");
        child(h, 12, 5);
        Checks.of("CHILD: as by birth: half (cut) of what both are, not of what they show");
        Checks.work(h, "feign 2 0 0;feign 1 0 0;");
        child(h, 12, 5);
        Checks.work(h, "feign 0 0 9;");
        child(h, 1, 9);
        Checks.of("CHILD: whether there are 8 or not; its number that of the next one; of age 0, feigning none");
        FarthestHeir eight = ruled(EIGHT, "person * 10 + age + feints");
        child(eight, 1, 80);
        Checks.work(eight, "die 0;");
        child(eight, 12, 80);
        FarthestHeir two = ruled("person 3 3 3;person 3 3 3;", "person * 10 + age + feints");
        child(two, 1, 20);
        Checks.due("would takes a number 8", eight.would(0, 0, 0, 0, 0, 0, 0, 8), 80);
    }

    private static void middling(FarthestHeir h, int who, int far) {
        Checks.due("middling who", h.middling(0), who);
        Checks.due("middling far", h.middling(1), far);
    }

    private static void middling() {
        Checks.of("MIDDLING: of all who live that one from whom the others who live are least FAR at the most");
        middling(new FarthestHeir(), -1, -1);
        middling(alike(1, 0), -1, -1);
        middling(alike(3, 2), -1, -1);
        middling(alike(3, 3), -1, -1);
        middling(alike(3, 1), 1, 0);
        FarthestHeir two = ruled("person 3 3 3;person 3 3 3;", "person * 10");
        middling(two, 1, 0);
        Checks.law(two, "100");
        middling(two, 0, 99);
        FarthestHeir line = ruled(LINE, "nose");
        middling(line, 3, 4);
        Checks.work(line, "die 7;");
        middling(line, 3, 3);
        Checks.work(line, "die 3;");
        middling(line, 2, 4);
    }

    private static void chance(int n, int k, int q, long above, long below) {
        FarthestHeir h = new FarthestHeir();
        Checks.due("chance above " + n + " " + k + " " + q, h.chance(n, k, q, 0), above);
        Checks.due("chance below " + n + " " + k + " " + q, h.chance(n, k, q, 1), below);
    }

    private static void chance() {
        Checks.of("CHANCE: n traits by q of 16, each by itself: how likely it has k or more; in least terms");
        for (int q = 0; q <= 16; q++) {
            chance(0, 0, q, 1, 1);
            chance(0, 1, q, 0, 1);
            chance(12, 0, q, 1, 1);
            chance(12, 13, q, 0, 1);
            chance(5, 6, q, 0, 1);
        }
        for (int k = 1; k <= 12; k++) {
            chance(12, k, 16, 1, 1);
            chance(12, k, 0, 0, 1);
        }
        chance(1, 1, 1, 1, 16);
        chance(1, 1, 2, 1, 8);
        chance(1, 1, 12, 3, 4);
        chance(1, 1, 15, 15, 16);
        chance(2, 2, 15, 225, 256);
        chance(2, 1, 15, 255, 256);
        chance(12, 12, 8, 1, 4096);
        chance(12, 1, 8, 4095, 4096);
        chance(12, 12, 1, 1, 1L << 48);
        chance(12, 1, 15, (1L << 48) - 1, 1L << 48);
    }

    private static void rest(int v, int w, int many, int first, int together) {
        FarthestHeir h = new FarthestHeir();
        Checks.due("rests " + v + " " + w, h.feigning(v, w, 0), many);
        Checks.due("first rest " + v + " " + w, h.feigning(v, w, 1), first);
        Checks.due("together " + v + " " + w, h.feigning(v, w, 2), together);
    }

    private static void feigning() {
        Checks.of("FEIGNING: v by 2 (cut), less w; RESTS: neither would have more by the other thing");
        rest(0, 0, 4, 0, 0);
        rest(1, 0, 3, 0, 0);
        rest(1, 1, 3, 1, 0);
        rest(2, 1, 4, 0, 0);
        rest(3, 1, 3, 0, 0);
        rest(3, 2, 3, 1, 1);
        rest(0, 1, 1, 11, 0);
        rest(0, 99, 1, 11, 0);
        rest(99, 0, 1, 0, 98);
        rest(99, 49, 3, 0, 0);
        rest(99, 50, 3, 1, 49);
        rest(99, 48, 1, 0, 2);
        rest(99, 51, 1, 11, 98);
        rest(98, 49, 4, 0, 0);
        rest(99, 99, 1, 11, 98);
    }

    private static void shares(FarthestHeir h, int persons, int n, int... due) {
        for (int p = 0; p < due.length; p++) {
            Checks.due("land of " + p + " among " + persons + " by " + n, h.land(p, persons, n), due[p]);
        }
    }

    private static void landBound() {
        Checks.of("LAND levelled: no more than a bound, the greatest by which no more than n are given (all, if they are no more)");
        FarthestHeir h = ruled("person 0 0 0;person 2 0 0;person 5 0 0;person 9 0 0;", "nose");
        shares(h, 15, 0, 0, 0, 0, 0);
        shares(h, 15, 2, 0, 0, 0, 0);
        shares(h, 15, 3, 0, 1, 1, 1);
        shares(h, 15, 5, 0, 1, 1, 1);
        shares(h, 15, 6, 0, 2, 2, 2);
        shares(h, 15, 7, 0, 2, 2, 2);
        shares(h, 15, 8, 0, 2, 3, 3);
        shares(h, 15, 12, 0, 2, 5, 5);
        shares(h, 15, 13, 0, 2, 5, 6);
        shares(h, 15, 15, 0, 2, 5, 8);
        shares(h, 15, 16, 0, 2, 5, 9);
        shares(h, 15, 17, 0, 2, 5, 9);
        shares(h, 15, 999, 0, 2, 5, 9);
        shares(h, 8, 1, 0, 0, 0, 1);
        FarthestHeir most = ruled(EIGHT, "100");
        shares(most, 255, 692, 0, 98, 98, 98, 98, 98, 98, 98);
        shares(most, 255, 693, 0, 99, 99, 99, 99, 99, 99, 99);
        shares(most, 255, 999, 0, 99, 99, 99, 99, 99, 99, 99);
        shares(most, 255, 6, 0, 0, 0, 0, 0, 0, 0, 0);
        shares(most, 255, 7, 0, 1, 1, 1, 1, 1, 1, 1);
    }

    private static void landByNone() {
        Checks.of("LAND: the DUKE by 0; who is dead by 0; 0, if it is none of them");
        FarthestHeir h = ruled("person 0 0 0;person 2 0 0;person 5 0 0;person 9 0 0;", "50");
        shares(h, 15, 150, 0, 50, 50, 50);
        shares(h, 1, 150, 0, 0, 0, 0);
        shares(h, 0, 150, 0, 0, 0, 0);
        shares(h, 10, 99, 0, 49, 0, 49);
        Checks.work(h, "die 3;");
        shares(h, 15, 150, 0, 50, 50, 0);
        shares(h, 8, 150, 0, 0, 0, 0);
        shares(h, 15, 99, 0, 49, 49, 0);
        Checks.work(h, "die 0;");
        Checks.due("the new duke", h.told(2), 1);
        shares(h, 15, 99, 0, 0, 50, 0);
        Checks.work(h, "die 1;die 2;");
        shares(h, 15, 999, 0, 0, 0, 0);
    }

    private static void century(FarthestHeir h, int seed, int years, int q, int... due) {
        for (int what = 0; what < due.length; what++) {
            Checks.due("century " + seed + " " + years + " " + q + " " + what, h.century(seed, years, q, what), due[what]);
        }
    }

    /** What is DRAWN by SEED 0: 0, 4 of 8, 4 of 16, 5, 2 of 8 ..; by SEED 3: 3, 3 of 8, 13 of 16, 0 of 8. */
    private static void centuryOfOneYear() {
        Checks.of("A CENTURY: birth of these two (if it can be done); DRAWN by 16 below Q: die of DRAWN by 8; then year");
        FarthestHeir five = Checks.ruled(Checks.times("person 3 3 3;", 5));
        century(five, 0, 1, 0, 0, 63, 1, 6);
        century(five, 0, 1, 4, 0, 63, 1, 6);
        century(five, 0, 1, 5, 0, 31, 1, 6);
        century(five, 0, 1, 16, 0, 31, 1, 6);
        Checks.of("A CENTURY: one DRAWN more, if one shall die");
        century(five, 0, 2, 4, 0, 127, 1, 7);
        century(five, 0, 2, 5, 0, 31, 1, 6);
        Checks.of("A CENTURY: birth (if it can be done): not of one, nor of one who is no PERSON, nor if there are 8");
        century(five, 3, 1, 13, 0, 31, 1, 5);
        century(five, 3, 1, 14, 1, 30, 2, 5);
        century(alike(4, 0), 0, 1, 16, 0, 15, 1, 4);
        century(alike(8, 0), 0, 1, 4, 0, 255, 1, 8);
        century(alike(8, 0), 0, 1, 5, 0, 223, 1, 8);
        Checks.of("A CENTURY: die (if it can)");
        century(alike(8, 6), 0, 1, 16, 6, 192, 7, 8);
        century(alike(1, 0), 3, 1, 14, -1, 0, 1, 1);
        century(alike(1, 1), 3, 1, 14, -1, 0, 1, 1);
        century(new FarthestHeir(), 3, 96, 16, -1, 0, 0, 0);
        Checks.of("What is DRAWN: the SEED (32 bits), its bits 16 to 30");
        century(five, Integer.MIN_VALUE, 1, 4, 0, 63, 1, 6);
        century(five, Integer.MIN_VALUE, 1, 5, 0, 31, 1, 6);
        century(five, Integer.MIN_VALUE + 3, 1, 14, 1, 30, 2, 5);
    }

    private static void centuryOfMany() {
        Checks.of("A CENTURY of 96 YEARS: by Q 0 nobody dies; a DUKE more only if one was there");
        FarthestHeir two = Checks.ruled("person 3 3 3;person 3 3 3;");
        for (int seed = 0; seed < 8; seed++) {
            Checks.due("nobody dies by " + seed, two.century(seed, 96, 0, 2), 1);
            Checks.due("all live by " + seed, two.century(seed, 96, 0, 1), (1 << two.century(seed, 96, 0, 3)) - 1);
        }
        FarthestHeir none = new FarthestHeir();
        Checks.due("dukes of nobody", none.century(1, 96, 16, 2), 0);
        Checks.of("A CENTURY: the years pass: age, reign and YEAR go into the LAW as in a WORK");
        FarthestHeir h = ruled(LINE, "year * 20 * (person % 3) + person");
        // By SEED 3 the DUKE 0 dies ahead of the first YEAR: all are FAR by their numbers.
        century(h, 3, 1, 14, 7, 254, 2, 8);
        Checks.work(h, "year;");
        century(h, 3, 1, 14, 5, 254, 2, 8);
    }
}
