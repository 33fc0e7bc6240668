/** The edges that promises 11 to 38 name, each by its number: wrong numbers, nobody, one, eight, ties, the last. */
public final class AskedEdgesTest {
    private static final String FOUR = "person 1 2 3;person 9 2 3;person 4 8 0;person 5 5 5;duke 1;";
    private static final String EIGHT = Checks.times("person 3 3 3;", 8);

    public static void main(String[] args) {
        far();
        would();
        ahead();
        aheadOfTwenty();
        after();
        feint();
        ring();
        like();
        ask();
        pairsAndMate();
        row();
        rowed();
        child();
        middling();
        chance();
        feigning();
        land();
        landBits();
        oldest();
        alike();
        beyond();
        nearest();
        spread();
        masks();
        rank();
        mild();
        unlike();
        century();
        span();
        spanWraps();
        refusedChangesNothing();
        Checks.end();
    }

    private static FarthestHeir ruled(String dukedom, String law) {
        FarthestHeir h = Checks.ruled(dukedom);
        Checks.due("law '" + law + "'", Checks.law(h, law), 1);
        return h;
    }

    private static FarthestHeir dead(int many) {
        FarthestHeir h = Checks.ruled(FOUR);
        String[] works = {"", "die 0;", "die 0;die 1;", "die 0;die 1;die 2;", "die 0;die 1;die 2;die 3;"};
        Checks.work(h, works[many]);
        return h;
    }

    /** One answer for nobody at all, and for four who are dead. */
    private static void ofNobody(String what, long want, java.util.function.ToLongFunction<FarthestHeir> call) {
        Checks.due(what + " without PERSONS", call.applyAsLong(new FarthestHeir()), want);
        Checks.due(what + " if none lives", call.applyAsLong(dead(4)), want);
    }

    private static void far() {
        Checks.of("Promise 11: FAR of a PERSON from another one (of one: by differences of 0)");
        FarthestHeir h = ruled(FOUR, "nose + temper + cat + 7");
        for (int p = 0; p < 4; p++) {
            Checks.due("far of one", h.far(p, p), 7);
        }
        Checks.work(h, "feign 1 0 0;die 3;");
        Checks.due("of one who feigns", h.far(1, 1), 7);
        Checks.due("of a dead one", h.far(3, 3), 7);
        Checks.due("from a dead one", h.far(1, 3), 17);
        Checks.law(h, "feints + person * 10");
        Checks.due("of one who feigns", h.far(1, 1), 11);
        Checks.persons(h, "far", p -> h.far(p, 0));
        Checks.persons(h, "far from", p -> h.far(0, p));
        Checks.noSuch("of none from none", () -> h.far(4, 4));
    }

    private static void would() {
        Checks.of("Promise 12: nose, temper, cat (0 to 9 each), feints (0 to 3), age (0 to 999), reign, year (0 to 900), person (0 to 8)");
        FarthestHeir h = new FarthestHeir();
        Checks.range(h, "nose", 0, 9, x -> h.would(x, 0, 0, 0, 0, 0, 0, 0));
        Checks.range(h, "temper", 0, 9, x -> h.would(0, x, 0, 0, 0, 0, 0, 0));
        Checks.range(h, "cat", 0, 9, x -> h.would(0, 0, x, 0, 0, 0, 0, 0));
        Checks.range(h, "feints", 0, 3, x -> h.would(0, 0, 0, x, 0, 0, 0, 0));
        Checks.range(h, "age", 0, 999, x -> h.would(0, 0, 0, 0, x, 0, 0, 0));
        Checks.range(h, "reign", 0, 900, x -> h.would(0, 0, 0, 0, 0, x, 0, 0));
        Checks.range(h, "year", 0, 900, x -> h.would(0, 0, 0, 0, 0, 0, x, 0));
        Checks.range(h, "person", 0, 8, x -> h.would(0, 0, 0, 0, 0, 0, 0, x));
        Checks.law(h, "year - reign");
        Checks.due("a reign longer than the year", h.would(0, 0, 0, 0, 0, 900, 0, 0), 0);
        Checks.due("a year without a reign", h.would(0, 0, 0, 0, 0, 0, 900, 0), 99);
    }

    private static void ahead() {
        Checks.of("Promise 13: In n YEARS (0 to 99), nothing else being done: 0 HEIR (NONE), 1 FAR of HEIR (0 without)");
        FarthestHeir h = ruled(FOUR, "year");
        Checks.range(h, "n", 0, 99, n -> h.ahead(n, 0));
        Checks.range(h, "what", 0, 2, what -> h.ahead(0, what));
        Checks.due("now", h.ahead(0, 1), 0);
        Checks.due("in a year", h.ahead(1, 1), 1);
        Checks.due("in 99 years", h.ahead(99, 1), 99);
        Checks.work(h, "year;");
        Checks.due("now", h.ahead(0, 1), 1);
        Checks.law(h, "reign");
        Checks.due("he rules on", h.ahead(9, 1), 10);
        Checks.law(h, "age");
        Checks.due("they are older", h.ahead(9, 1), 30);
        for (int n = 0; n < 100; n += 33) {
            int years = n;
            ofNobody("heir ahead", -1, x -> x.ahead(years, 0));
            ofNobody("far ahead", 0, x -> x.ahead(years, 1));
            ofNobody("who is far ahead", 0, x -> x.ahead(years, 2));
            Checks.due("heir of one alone", dead(3).ahead(years, 0), -1);
            Checks.due("far of one alone", dead(3).ahead(years, 1), 0);
            Checks.due("who is far of one alone", dead(3).ahead(years, 2), 0);
        }
        Checks.of("Promise 13: In n YEARS, beyond YEAR 900, too");
        FarthestHeir late = ruled(FOUR, "year - 900");
        Checks.passed(late, 900);
        Checks.due("year 900", late.ahead(0, 1), 0);
        Checks.due("year 901", late.ahead(1, 1), 1);
        Checks.due("year 999", late.ahead(99, 1), 99);
        Checks.law(late, "reign - 900");
        Checks.due("reign 999", late.ahead(99, 1), 99);
        Checks.law(late, "age - 920");
        Checks.due("age 1019", late.ahead(99, 1), 99);
    }

    private static void aheadOfTwenty() {
        Checks.of("Promise 13: 2 who is FAR 20 or more from the DUKE, of all who live but him (bits)");
        FarthestHeir h = ruled(FOUR, "18 + person + year");
        Checks.due("18, 20 and 21", h.ahead(0, 2), 12);
        Checks.due("19, 21 and 22", h.ahead(1, 2), 12);
        Checks.due("20, 22 and 23", h.ahead(2, 2), 13);
        Checks.work(h, "die 2;");
        Checks.due("all who live", h.ahead(99, 2), 9);
        FarthestHeir eight = ruled(EIGHT + "duke 7;", "20");
        Checks.due("all but him", eight.ahead(0, 2), 127);
        Checks.law(eight, "19");
        Checks.due("none", eight.ahead(99, 2), 0);
    }

    private static void after() {
        Checks.of("Promise 14: did now k DUKES (0 to 8) die, one behind the other; NONE");
        FarthestHeir h = ruled(EIGHT + "duke 4;", "0");
        Checks.range(h, "k", 0, 8, h::after);
        int[] dukes = {4, 0, 1, 2, 3, 5, 6, 7, -1};
        for (int k = 0; k < dukes.length; k++) {
            Checks.due("after " + k, h.after(k), dukes[k]);
        }
        Checks.work(h, "die 0;");
        Checks.due("the last lives", h.after(6), 7);
        Checks.due("none lives", h.after(7), -1);
        Checks.due("none lives", h.after(8), -1);
        for (int k = 0; k <= 8; k++) {
            int deaths = k;
            ofNobody("after " + k, -1, x -> x.after(deaths));
        }
        Checks.due("one alone", dead(3).after(0), 3);
        Checks.due("one alone", dead(3).after(1), -1);
    }

    private static void feint() {
        Checks.of("Promise 15: FEINT: 0 by how much, 1 the three numbers; NONE both");
        FarthestHeir h = Checks.ruled(FOUR);
        Checks.persons(h, "feint", p -> h.feint(p, 0));
        Checks.range(h, "what", 0, 1, what -> h.feint(0, what));
        Checks.range(h, "what of the duke", 0, 1, what -> h.feint(1, what));
        Checks.noSuch("both are wrong", () -> h.feint(4, 2));
        Checks.noSuch("both are wrong", () -> h.feint(-1, -1));
        for (int p = 0; p < 4; p++) {
            Checks.due("if none lives", dead(4).feint(p, 0), -1);
            Checks.due("if none lives", dead(4).feint(p, 1), -1);
            Checks.due("if one lives", dead(3).feint(p, 0), -1);
            Checks.due("if one lives", dead(3).feint(p, 1), -1);
        }
    }

    private static void ring() {
        Checks.of("Promise 16: RING: 0 TAIL, 1 ROUND (0 both: not two live)");
        FarthestHeir h = dead(1);
        Checks.persons(h, "ring", p -> h.ring(p, 0));
        Checks.range(h, "what", 0, 1, what -> h.ring(0, what));
        Checks.noSuch("both are wrong", () -> h.ring(4, 2));
        Checks.noSuch("both are wrong", () -> h.ring(-1, -1));
        for (int p = 0; p < 4; p++) {
            for (int what = 0; what < 2; what++) {
                Checks.due("if none lives", dead(4).ring(p, what), 0);
                Checks.due("if one lives", dead(3).ring(p, what), 0);
            }
            Checks.due("tail if two live", dead(2).ring(p, 0), p < 2 ? 1 : 0);
            Checks.due("round if two live", dead(2).ring(p, 1), 2);
        }
    }

    private static void like() {
        Checks.of("Promise 17: LIKE: 0 how many, 1 the first (NONE)");
        FarthestHeir h = Checks.ruled(FOUR);
        Checks.range(h, "what", 0, 1, h::like);
        Checks.book(h, "0 99;");
        Checks.range(h, "what without", 0, 1, h::like);
        Checks.due("none", h.like(0), 0);
        Checks.due("none", h.like(1), -1);
        ofNobody("like", 1000, x -> x.like(0));
        ofNobody("first like", 0, x -> x.like(1));
    }

    private static void ask() {
        Checks.of("Promise 18: ASK: NONE both: all are in lines, or there are none");
        FarthestHeir h = Checks.ruled(FOUR);
        Checks.range(h, "what", 0, 1, h::ask);
        Checks.book(h, "0 0;1 0;2 0;");
        Checks.due("the last one", h.ask(0), 3);
        Checks.due("none is left", h.ask(1), 0);
        Checks.book(h, "0 0;1 0;2 0;3 0;");
        Checks.range(h, "what without", 0, 1, h::ask);
        Checks.due("all are in lines", h.ask(0), -1);
        Checks.due("all are in lines", h.ask(1), -1);
        Checks.work(h, "birth 0 1;");
        Checks.due("one more is in none", h.ask(0), 4);
        Checks.due("one more is in none", h.ask(1), 0);
        FarthestHeir eight = Checks.ruled(EIGHT);
        Checks.book(eight, "0 0;1 0;2 0;3 0;4 0;5 0;6 0;");
        Checks.due("the eighth", eight.ask(0), 7);
        Checks.due("one is left", eight.ask(1), 1);
        FarthestHeir none = new FarthestHeir();
        Checks.due("there are none", none.ask(0), -1);
        Checks.due("there are none", none.ask(1), -1);
    }

    private static void pairsAndMate() {
        Checks.of("Promises 19, 20: FAR together; the mate; NONE: it is alone, or dead");
        FarthestHeir h = dead(1);
        Checks.persons(h, "mate", h::mate);
        ofNobody("pairs", 0, FarthestHeir::pairs);
        Checks.due("one alone", dead(3).pairs(), 0);
        int[] alone = {-1, -1, -1, -1};
        int[] two = {-1, -1, 3, 2};
        for (int p = 0; p < 4; p++) {
            Checks.due("if none lives", dead(4).mate(p), alone[p]);
            Checks.due("if one lives", dead(3).mate(p), alone[p]);
            Checks.due("if two live", dead(2).mate(p), two[p]);
        }
        FarthestHeir most = ruled(EIGHT, "100");
        Checks.due("the most", most.pairs(), 396);
        Checks.work(most, "die 0;");
        Checks.due("of seven", most.pairs(), 297);
        Checks.due("alone", most.mate(7), -1);
        Checks.due("dead", most.mate(0), -1);
    }

    private static void row() {
        Checks.of("Promise 21: ROW by n (0 to 99): how many");
        FarthestHeir h = ruled(FOUR, "100");
        Checks.range(h, "n", 0, 99, h::row);
        Checks.due("by 99", h.row(99), 4);
        Checks.law(h, "0");
        Checks.due("by 0", h.row(0), 4);
        Checks.due("by 1", h.row(1), 1);
        ofNobody("row", 0, x -> x.row(0));
        Checks.due("one alone", dead(3).row(99), 1);
    }

    private static void rowed() {
        Checks.of("Promise 22: The k-th (k from 0 on); NONE: there are not so many. IllegalArgumentException: also k below 0");
        FarthestHeir h = ruled(EIGHT, "5");
        Checks.range(h, "n", 0, 99, n -> h.rowed(n, 0));
        for (int k = 0; k < 8; k++) {
            Checks.due("rowed " + k, h.rowed(5, k), k);
            Checks.due("rowed behind one " + k, h.rowed(6, k), k == 0 ? 0 : -1);
        }
        Checks.due("not so many", h.rowed(5, 8), -1);
        Checks.due("not so many", h.rowed(5, 9), -1);
        Checks.due("not so many", h.rowed(5, Integer.MAX_VALUE), -1);
        Checks.illegal("k", () -> h.rowed(5, -1));
        Checks.illegal("k", () -> h.rowed(5, Integer.MIN_VALUE));
        Checks.illegal("n though k is too great", () -> h.rowed(100, 8));
        Checks.illegal("both", () -> h.rowed(-1, -1));
        ofNobody("rowed", -1, x -> x.rowed(0, 0));
        ofNobody("rowed far", -1, x -> x.rowed(99, Integer.MAX_VALUE));
    }

    private static void child() {
        Checks.of("Promise 23: CHILD: NONE both: there is no DUKE, or not two live");
        FarthestHeir h = Checks.ruled(FOUR);
        Checks.range(h, "what", 0, 1, h::child);
        for (int what = 0; what < 2; what++) {
            int asked = what;
            ofNobody("child", -1, x -> x.child(asked));
            Checks.due("one alone", dead(3).child(what), -1);
        }
        FarthestHeir none = dead(4);
        Checks.range(none, "what without", 0, 1, none::child);
        Checks.due("two live", dead(2).child(0), 23);
        FarthestHeir last = ruled(EIGHT, "0");
        Checks.work(last, "die 0;die 1;die 2;die 3;die 4;die 5;");
        Checks.due("the last two", last.child(0), 67);
        Checks.due("far 0", last.child(1), 0);
        Checks.law(last, "100");
        Checks.due("far 99", last.child(1), 99);
    }

    private static void middling() {
        Checks.of("Promise 24: MIDDLING: 0 who, 1 how FAR that one is; NONE both: not two live");
        FarthestHeir h = Checks.ruled(FOUR);
        Checks.range(h, "what", 0, 1, h::middling);
        for (int what = 0; what < 2; what++) {
            int asked = what;
            ofNobody("middling", -1, x -> x.middling(asked));
            Checks.due("one alone", dead(3).middling(what), -1);
        }
        FarthestHeir one = dead(3);
        Checks.range(one, "what without", 0, 1, one::middling);
        Checks.due("two live", dead(2).middling(0), 2);
        Checks.due("two live", dead(2).middling(1), 12);
    }

    private static void chance() {
        Checks.of("Promise 25: CHANCE of n (0 to 12), k (0 to 13), q (0 to 16): above (part 0), below (part 1)");
        FarthestHeir h = new FarthestHeir();
        Checks.range(h, "n", 0, 12, n -> h.chance(n, 1, 1, 0));
        Checks.range(h, "k", 0, 13, k -> h.chance(1, k, 1, 0));
        Checks.range(h, "q", 0, 16, q -> h.chance(1, 1, q, 0));
        Checks.range(h, "part", 0, 1, part -> h.chance(1, 1, 1, part));
        Checks.range(h, "part of none", 0, 1, part -> h.chance(1, 2, 1, part));
        Checks.due("above", h.chance(0, 13, 0, 0), 0);
        Checks.due("below", h.chance(0, 13, 0, 1), 1);
        Checks.due("above", h.chance(12, 13, 16, 0), 0);
        Checks.due("below", h.chance(12, 13, 16, 1), 1);
        Checks.due("above", h.chance(12, 12, 3, 0), 531441);
        Checks.due("below", h.chance(12, 12, 3, 1), 281474976710656L);
    }

    private static void feigning() {
        Checks.of("Promise 26: FEIGNING by v, w (0 to 99): 0 how many RESTS, 1 the first, 2 what both have by it together");
        FarthestHeir h = new FarthestHeir();
        Checks.range(h, "v", 0, 99, v -> h.feigning(v, 0, 0));
        Checks.range(h, "w", 0, 99, w -> h.feigning(0, w, 0));
        Checks.range(h, "what", 0, 2, what -> h.feigning(0, 0, what));
        Checks.due("only one feigns", h.feigning(99, 50, 1), 1);
        Checks.due("both feign", h.feigning(99, 0, 1), 0);
        Checks.due("neither feigns", h.feigning(0, 99, 1), 11);
    }

    private static void land() {
        Checks.of("Promise 27: What a PERSON gets of n (0 to 999) by LAND among told PERSONS (0, if it is none of them)");
        FarthestHeir h = ruled(FOUR, "10");
        Checks.persons(h, "land", p -> h.land(p, 15, 99));
        Checks.range(h, "n", 0, 999, n -> h.land(0, 15, n));
        Checks.due("it is none of them", h.land(0, 14, 99), 0);
        Checks.due("it is one of them", h.land(0, 1, 99), 10);
        Checks.due("among nobody", h.land(0, 0, 99), 0);
        Checks.noSuch("all are wrong", () -> h.land(4, 16, 1000));
        Checks.noSuch("all are wrong", () -> h.land(-1, -1, -1));
        Checks.noSuch("nobody", () -> new FarthestHeir().land(0, 0, 0));
        for (int p = 0; p < 4; p++) {
            Checks.due("if none lives", dead(4).land(p, 15, 999), 0);
            Checks.due("if one lives", dead(3).land(p, 15, 999), 0);
        }
    }

    private static void landBits() {
        Checks.of("Promise 27: IllegalArgumentException: bits of no PERSONS");
        FarthestHeir h = Checks.ruled(FOUR);
        Checks.range(h, "bits", 0, 15, bits -> h.land(0, bits, 9));
        for (int bit = 4; bit < 32; bit++) {
            int bits = 1 << bit;
            Checks.illegal("bit " + bit, () -> h.land(0, bits, 9));
            Checks.illegal("bit " + bit + " too", () -> h.land(0, bits | 1, 9));
        }
        Checks.work(h, "birth 0 1;die 2;");
        Checks.range(h, "bits of five", 0, 31, bits -> h.land(4, bits, 9));
        h.undo();
        Checks.illegal("not born again", () -> h.land(0, 16, 9));
        FarthestHeir eight = Checks.ruled(EIGHT);
        Checks.range(eight, "bits of eight", 0, 255, bits -> eight.land(7, bits, 9));
    }

    private static void oldest() {
        Checks.of("Promise 28: The oldest who lives (what 0), of alike ones the first, the age (1); NONE both: none lives");
        FarthestHeir h = Checks.ruled(FOUR);
        Checks.range(h, "what", 0, 1, h::oldest);
        Checks.due("of alike ones the first", h.oldest(0), 0);
        Checks.work(h, "year;die 0;");
        Checks.due("who lives", h.oldest(0), 1);
        Checks.due("its age", h.oldest(1), 21);
        Checks.work(h, "birth 1 2;die 1;die 2;die 3;");
        Checks.due("of age 0", h.oldest(0), 4);
        Checks.due("of age 0", h.oldest(1), 0);
        for (int what = 0; what < 2; what++) {
            int asked = what;
            ofNobody("oldest", -1, x -> x.oldest(asked));
        }
        Checks.work(h, "die 4;");
        Checks.range(h, "what without", 0, 1, h::oldest);
    }

    private static void alike() {
        Checks.of("Promise 29: Pairs of those who live who show the same in all TRAITS: 0 how many (each once), 1 the first (NONE)");
        FarthestHeir h = Checks.ruled(EIGHT);
        Checks.range(h, "what", 0, 1, h::alike);
        Checks.due("all pairs", h.alike(0), 28);
        Checks.due("the first", h.alike(1), 1);
        Checks.work(h, "die 0;die 1;die 2;die 3;die 4;die 5;");
        Checks.due("one pair", h.alike(0), 1);
        Checks.due("the last two", h.alike(1), 67);
        for (int t = 0; t < 3; t++) {
            Checks.work(h, "feign 6 " + t + " 4;");
            Checks.due("but for one TRAIT", h.alike(0), 0);
            Checks.due("but for one TRAIT", h.alike(1), -1);
            Checks.work(h, "feign 7 " + t + " 4;");
            Checks.due("as they show it", h.alike(0), 1);
        }
        ofNobody("alike", 0, x -> x.alike(0));
        ofNobody("first alike", -1, x -> x.alike(1));
    }

    private static void beyond() {
        Checks.of("Promise 30: Who lives and is FAR n or more from a PERSON (0 to 99), but itself (bits)");
        FarthestHeir h = ruled(EIGHT, "100");
        Checks.persons(h, "beyond", p -> h.beyond(p, 0));
        Checks.range(h, "n", 0, 99, n -> h.beyond(0, n));
        Checks.noSuch("both are wrong", () -> h.beyond(8, 100));
        Checks.noSuch("both are wrong", () -> h.beyond(-1, -1));
        Checks.due("but the first", h.beyond(0, 99), 254);
        Checks.due("but the last", h.beyond(7, 99), 127);
        Checks.law(h, "98");
        Checks.due("n or more", h.beyond(0, 98), 254);
        Checks.due("n or more", h.beyond(0, 99), 0);
        Checks.law(h, "0");
        Checks.due("far 0", h.beyond(3, 0), 247);
        Checks.work(h, "die 3;die 4;");
        Checks.due("from a dead one", h.beyond(3, 0), 231);
        Checks.due("from one who lives", h.beyond(5, 0), 199);
        Checks.due("if none lives", dead(4).beyond(0, 0), 0);
        Checks.due("if one lives", dead(3).beyond(3, 0), 0);
        Checks.due("if one lives, from a dead one", dead(3).beyond(0, 0), 8);
    }

    private static void nearest() {
        Checks.of("Promise 31: Who lives, but the DUKE, and is least FAR from him, of alike ones the first, how FAR; NONE both");
        FarthestHeir h = ruled(FOUR, "0");
        Checks.range(h, "what", 0, 1, h::nearest);
        Checks.due("of alike ones the first", h.nearest(0), 0);
        Checks.due("far 0", h.nearest(1), 0);
        Checks.law(h, "100");
        Checks.due("of alike ones the first", h.nearest(0), 0);
        Checks.due("far 99", h.nearest(1), 99);
        Checks.law(h, "9 - person");
        Checks.due("the last", h.nearest(0), 3);
        Checks.work(h, "die 3;die 2;die 0;");
        Checks.due("there is none", h.nearest(0), -1);
        Checks.due("there is none", h.nearest(1), -1);
        for (int what = 0; what < 2; what++) {
            int asked = what;
            ofNobody("nearest", -1, x -> x.nearest(asked));
        }
        Checks.range(h, "what without", 0, 1, h::nearest);
    }

    private static void spread() {
        Checks.of("Promise 32: Of a TRAIT (0 to 2), as those who live show it: 0 the least, 1 the most; NONE both: none lives");
        FarthestHeir h = Checks.ruled("person 0 5 9;person 9 5 0;person 4 4 4;");
        Checks.range(h, "trait", 0, 2, trait -> h.spread(trait, 0));
        Checks.range(h, "what", 0, 1, what -> h.spread(0, what));
        int[] least = {0, 4, 0};
        int[] most = {9, 5, 9};
        for (int t = 0; t < 3; t++) {
            Checks.due("least " + t, h.spread(t, 0), least[t]);
            Checks.due("most " + t, h.spread(t, 1), most[t]);
        }
        Checks.work(h, "die 0;die 1;");
        for (int t = 0; t < 3; t++) {
            int trait = t;
            Checks.due("least of one", h.spread(t, 0), 4);
            Checks.due("most of one", h.spread(t, 1), 4);
            ofNobody("least " + t, -1, x -> x.spread(trait, 0));
            ofNobody("most " + t, -1, x -> x.spread(trait, 1));
        }
        Checks.work(h, "die 2;");
        Checks.range(h, "trait without", 0, 2, trait -> h.spread(trait, 0));
        Checks.range(h, "what without", 0, 1, what -> h.spread(0, what));
    }

    private static void masks() {
        Checks.of("Promise 33: TRAITS (bits) a PERSON feigns");
        FarthestHeir h = Checks.ruled(EIGHT);
        Checks.persons(h, "masks", h::masks);
        Checks.work(h, "feign 0 0 0;feign 7 2 9;feign 1 0 4;feign 1 1 4;feign 1 2 4;");
        int[] due = {1, 7, 0, 0, 0, 0, 0, 4};
        for (int p = 0; p < 8; p++) {
            Checks.due("masks of " + p, h.masks(p), due[p]);
            Checks.due("how many of " + p, h.person(p, 8), Integer.bitCount(due[p]));
        }
    }

    private static void rank() {
        Checks.of("Promise 34: the k-th (from 0 on), the furthest ahead, of alike ones by numbers; NONE: there are not so many");
        FarthestHeir h = ruled(EIGHT + "duke 3;", "5");
        int[] due = {0, 1, 2, 4, 5, 6, 7, -1, -1};
        for (int k = 0; k < due.length; k++) {
            Checks.due("rank " + k, h.rank(k), due[k]);
        }
        Checks.law(h, "person / 2");
        int[] halves = {6, 7, 4, 5, 2, 0, 1, -1, -1};
        for (int k = 0; k < halves.length; k++) {
            Checks.due("rank by halves " + k, h.rank(k), halves[k]);
        }
        Checks.due("not so many", h.rank(Integer.MAX_VALUE), -1);
        Checks.illegal("k below 0", () -> h.rank(-1));
        Checks.illegal("k below 0", () -> h.rank(Integer.MIN_VALUE));
        Checks.due("both are counted", h.status(1), 2);
        ofNobody("rank", -1, x -> x.rank(0));
        Checks.due("one alone", dead(3).rank(0), -1);
        Checks.illegal("k below 0, if none lives", () -> dead(4).rank(-1));
    }

    private static void mild() {
        Checks.of("Promise 35: Who lives (bits) and is FAR n (0 to 99) or less from each other one who lives");
        FarthestHeir h = ruled(EIGHT, "person * 10");
        Checks.range(h, "n", 0, 99, h::mild);
        Checks.due("by 0", h.mild(0), 1);
        Checks.due("by 9", h.mild(9), 1);
        Checks.due("by 10", h.mild(10), 3);
        Checks.due("by 70", h.mild(70), 255);
        Checks.work(h, "die 0;");
        Checks.due("of the living", h.mild(10), 2);
        Checks.law(h, "100");
        Checks.due("by 98", h.mild(98), 0);
        Checks.due("by 99", h.mild(99), 254);
        ofNobody("mild", 0, x -> x.mild(99));
    }

    private static void unlike() {
        Checks.of("Promise 36: TRAITS (bits) in which a PERSON shows another number than the DUKE (0: it is he, or there is none)");
        FarthestHeir h = Checks.ruled("person 5 5 5;person 4 5 5;person 5 4 5;person 5 5 4;person 5 5 5;person 0 0 9;");
        Checks.persons(h, "unlike", h::unlike);
        int[] due = {0, 1, 2, 4, 0, 7};
        for (int p = 0; p < due.length; p++) {
            Checks.due("unlike of " + p, h.unlike(p), due[p]);
        }
        Checks.work(h, "feign 0 0 4;");
        int[] shown = {0, 0, 3, 5, 1, 7};
        for (int p = 0; p < shown.length; p++) {
            Checks.due("as the DUKE shows it " + p, h.unlike(p), shown[p]);
        }
        for (int p = 0; p < 4; p++) {
            Checks.due("there is none", dead(4).unlike(p), 0);
        }
        Checks.due("a dead one", dead(1).unlike(0), 1);
    }

    private static void century() {
        Checks.of("Promise 37: A CENTURY of so many YEARS (1 to 96), Q (0 to 16): 0 the DUKE then (NONE), 1 who lives, 2 DUKES, 3 PERSONS");
        FarthestHeir h = Checks.ruled(FOUR);
        Checks.range(h, "years", 1, 96, years -> h.century(0, years, 8, 0));
        Checks.range(h, "q", 0, 16, q -> h.century(0, 9, q, 0));
        Checks.range(h, "what", 0, 3, what -> h.century(0, 9, 8, what));
        int[] seeds = {Integer.MIN_VALUE, -1, 0, 1, Integer.MAX_VALUE};
        for (int seed : seeds) {
            Checks.answered("seed " + seed, () -> h.century(seed, 96, 16, 0));
            for (int what = 1; what < 4; what++) {
                int asked = what;
                Checks.due("without PERSONS", new FarthestHeir().century(seed, 96, 16, asked), 0);
            }
            ofNobody("the DUKE then", -1, x -> x.century(seed, 96, 16, 0));
            ofNobody("who lives then", 0, x -> x.century(seed, 96, 16, 1));
            Checks.due("DUKES by then", dead(4).century(seed, 96, 16, 2), dead(4).told(7));
            Checks.due("PERSONS then", dead(4).century(seed, 96, 16, 3), 4);
        }
    }

    private static void span() {
        Checks.of("Promise 38: Of so many SEEDS (1 to 20); no such PERSON now is an IllegalArgumentException, also for 0, 1");
        FarthestHeir h = Checks.ruled(FOUR);
        Checks.range(h, "many", 1, 20, many -> h.span(0, many, 1, 0, 0, 0));
        Checks.range(h, "years", 1, 96, years -> h.span(0, 1, years, 0, 0, 0));
        Checks.range(h, "q", 0, 16, q -> h.span(0, 1, 1, q, 0, 0));
        Checks.range(h, "what", 0, 2, what -> h.span(0, 1, 1, 0, what, 0));
        for (int what = 0; what < 3; what++) {
            int asked = what;
            Checks.range(h, "person by " + what, 0, 3, p -> h.span(0, 1, 1, 0, asked, p));
        }
        Checks.illegal("nobody", () -> new FarthestHeir().span(0, 1, 1, 0, 0, 0));
        Checks.of("Promise 38: no such PERSON now, though one is born by then");
        FarthestHeir five = Checks.ruled(Checks.times("person 3 3 3;", 5));
        Checks.due("born by then", five.century(0, 1, 0, 3), 6);
        Checks.illegal("not yet", () -> five.span(0, 1, 1, 0, 2, 5));
        Checks.of("Promise 38: 2 by how many a PERSON lives then");
        Checks.due("by all", five.span(0, 20, 96, 0, 2, 4), 20);
        Checks.work(five, "die 4;");
        Checks.due("a dead one by none", five.span(0, 20, 96, 0, 2, 4), 0);
        Checks.due("if none lives", dead(4).span(0, 20, 96, 16, 2, 0), 0);
        Checks.due("fewest, if none lives", dead(4).span(0, 20, 96, 16, 0, 0), dead(4).told(7));
        Checks.due("most, if none lives", dead(4).span(0, 20, 96, 16, 1, 0), dead(4).told(7));
    }

    /** By the greatest SEED 1 and 1 are DRAWN, and 6 of 16; by the least one 0 and 4, and 4 of 16: then 5 dies. */
    private static void spanWraps() {
        Checks.of("Promise 38: seed, seed and 1, .. (32 bits)");
        FarthestHeir h = Checks.ruled(EIGHT + "duke 5;");
        int seed = Integer.MAX_VALUE;
        Checks.due("fewest of one", h.span(seed, 1, 1, 5, 0, 5), 1);
        Checks.due("most of one", h.span(seed, 1, 1, 5, 1, 5), 1);
        Checks.due("lives by one", h.span(seed, 1, 1, 5, 2, 5), 1);
        Checks.due("fewest of two", h.span(seed, 2, 1, 5, 0, 5), 1);
        Checks.due("most of two", h.span(seed, 2, 1, 5, 1, 5), 2);
        Checks.due("lives by one of two", h.span(seed, 2, 1, 5, 2, 5), 1);
        Checks.due("another one by both", h.span(seed, 2, 1, 5, 2, 0), 2);
        Checks.due("fewest of the second", h.span(Integer.MIN_VALUE, 1, 1, 5, 0, 5), 2);
        Checks.due("lives by none", h.span(Integer.MIN_VALUE, 1, 1, 5, 2, 5), 0);
        Checks.due("from -1 to 0", h.span(-1, 2, 1, 5, 1, 5), 2);
        Checks.due("from -1 to 0", h.span(-1, 2, 1, 5, 2, 5), 1);
    }

    private static void refusedChangesNothing() {
        Checks.of("a refused call changes nothing but status");
        FarthestHeir h = ruled(FOUR, "nose + person");
        Checks.work(h, "year;feign 0 0 7;die 7;");
        Checks.book(h, "0 20;");
        h.image();
        h.feed(1, 2, 3, 4, 5);
        String before = Picture.withTape(h);
        Checks.illegal("ahead", () -> h.ahead(100, 0));
        Checks.illegal("after", () -> h.after(9));
        Checks.noSuch("feint", () -> h.feint(4, 0));
        Checks.illegal("land", () -> h.land(0, 16, 0));
        Checks.illegal("century", () -> h.century(0, 97, 0, 0));
        Checks.illegal("span", () -> h.span(0, 1, 1, 0, 0, 4));
        Checks.illegal("would", () -> h.would(0, 0, 0, 0, 0, 0, 0, 9));
        Checks.illegal("dukedom", () -> h.dukedom(21));
        Checks.same("all", Picture.withTape(h), before);
        Checks.due("no such ones", h.status(0), 1);
        Checks.due("illegal ones", h.status(1), 7);
    }
}
