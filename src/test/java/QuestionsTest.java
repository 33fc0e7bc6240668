/** Promises 11 to 36: what is asked of those who live, by a LAW in which one is not as far as the other one. */
public final class QuestionsTest {
    private static final String FOUR = "person 1 2 3;person 9 2 3;person 4 8 0;person 5 5 5;duke 1;";
    private static final String LAW = "nose + person * 3";

    public static void main(String[] args) {
        fars();
        woulds();
        ahead();
        after();
        feints();
        rings();
        likes();
        asks();
        pairs();
        rows();
        children();
        middling();
        chances();
        rests();
        land();
        oldest();
        alike();
        beyond();
        nearestAndRank();
        spread();
        masks();
        mild();
        unlike();
        Checks.end();
    }

    private static FarthestHeir four() {
        FarthestHeir h = Checks.ruled(FOUR);
        Checks.law(h, LAW);
        return h;
    }

    private static FarthestHeir nobody() {
        FarthestHeir h = Checks.ruled(FOUR);
        Checks.work(h, "die 0;die 1;die 2;die 3;");
        return h;
    }

    private static FarthestHeir oneLeft() {
        FarthestHeir h = Checks.ruled(FOUR);
        Checks.work(h, "die 0;die 1;die 2;");
        return h;
    }

    private static void fars() {
        FarthestHeir h = four();
        int[][] due = {{0, 8, 3, 4}, {11, 3, 8, 7}, {9, 11, 6, 7}, {13, 13, 10, 9}};
        for (int p = 0; p < 4; p++) {
            for (int other = 0; other < 4; other++) {
                Checks.due("far " + p + " " + other, h.far(p, other), due[p][other]);
            }
        }
        Checks.noSuch("far of none", () -> h.far(-1, 0));
        Checks.noSuch("far from none", () -> h.far(0, 4));
        Checks.work(h, "feign 0 0 9;year;year;die 2;");
        Checks.due("as he shows", h.far(0, 2), 5);
        Checks.law(h, "feints * 10 + age");
        Checks.due("feints and age of the first", h.far(0, 1), 32);
        Checks.due("not of the other", h.far(1, 0), 22);
        Checks.law(h, "year + reign * 10");
        Checks.due("year and reign", h.far(3, 0), 22);
        Checks.law(h, "0 - 7");
        Checks.due("0 at least", h.far(3, 0), 0);
        Checks.law(h, "100");
        Checks.due("99 at most", h.far(3, 0), 99);
    }

    private static void woulds() {
        FarthestHeir h = new FarthestHeir();
        Checks.due("without a law", h.would(1, 2, 3, 3, 9, 9, 9, 8), 8);
        Checks.law(h, "nose+temper+cat+feints+age%10+reign/100+year/100+person");
        int[] most = {9, 9, 9, 3, 999, 900, 900, 8};
        Checks.due("all at most", h.would(9, 9, 9, 3, 999, 900, 900, 8), 65);
        for (int i = 0; i < most.length; i++) {
            int at = i;
            Checks.illegal("would above " + i, () -> would(h, at, most[at] + 1));
            Checks.illegal("would below " + i, () -> would(h, at, -1));
            would(h, at, most[at]);
        }
    }

    private static int would(FarthestHeir h, int at, int x) {
        int[] v = new int[8];
        v[at] = x;
        return h.would(v[0], v[1], v[2], v[3], v[4], v[5], v[6], v[7]);
    }

    private static void ahead() {
        FarthestHeir h = Checks.ruled(FOUR);
        Checks.law(h, "least[year * person, 25] + reign");
        aheadFrom(h);
        Checks.due("nothing stays", h.told(5), 0);
        Checks.due("nothing stays", h.person(0, 6), 20);
        Checks.illegal("n", () -> h.ahead(-1, 0));
        Checks.illegal("n", () -> h.ahead(100, 0));
        Checks.illegal("what", () -> h.ahead(1, 3));
        Checks.illegal("what", () -> h.ahead(1, -1));
        Checks.law(h, "age");
        Checks.due("ages", h.ahead(40, 1), 60);
        Checks.due("of one alone", oneLeft().ahead(9, 0), -1);
        Checks.due("of one alone", oneLeft().ahead(9, 1), 0);
        Checks.due("of nobody", nobody().ahead(9, 0), -1);
        Checks.due("of nobody", nobody().ahead(9, 2), 0);
        aheadBeyond();
    }

    private static void aheadFrom(FarthestHeir h) {
        Checks.due("now", h.ahead(0, 0), 0);
        Checks.due("now far", h.ahead(0, 1), 0);
        Checks.due("in a year", h.ahead(1, 0), 3);
        Checks.due("in a year far", h.ahead(1, 1), 4);
        Checks.due("in five years", h.ahead(5, 2), 8);
        Checks.due("in ten years", h.ahead(10, 2), 12);
        Checks.due("in twenty years", h.ahead(20, 2), 13);
        Checks.due("in thirteen years", h.ahead(13, 0), 2);
        Checks.due("in 99 years all are 99 far", h.ahead(99, 0), 0);
        Checks.due("in 99 years far", h.ahead(99, 1), 99);
    }

    /** Only the STEP year has a last YEAR: what is asked goes beyond it. */
    private static void aheadBeyond() {
        int[] begins = {801, 802, 850, 887, 895, 899, 900};
        for (int begin : begins) {
            FarthestHeir h = Checks.ruled(FOUR);
            Checks.passed(h, begin);
            Checks.due("the year", h.told(5), begin);
            Checks.law(h, "least[year % " + begin + " * person, 25] + reign % " + begin);
            aheadFrom(h);
            Checks.law(h, "age - " + begin);
            Checks.due("ages", h.ahead(40, 1), 60);
            Checks.due("at twenty", h.ahead(0, 2), 13);
            Checks.law(h, "age - 41 - " + begin);
            Checks.due("at nineteen behind forty years", h.ahead(40, 2), 0);
            Checks.due("at twenty behind 41 years", h.ahead(41, 2), 13);
            Checks.due("nothing stays", h.told(5), begin);
            Checks.due("nothing stays", h.told(3), begin);
            Checks.due("nothing stays", h.person(0, 6), 20 + begin);
        }
    }

    private static void after() {
        FarthestHeir h = four();
        int[] due = {1, 3, 2, 0, -1, -1, -1, -1, -1};
        for (int k = 0; k < due.length; k++) {
            Checks.due("after " + k, h.after(k), due[k]);
        }
        Checks.due("nothing stays", h.told(1), 15);
        Checks.illegal("below", () -> h.after(-1));
        Checks.illegal("above", () -> h.after(9));
        Checks.due("of nobody", nobody().after(0), -1);
        Checks.work(h, "again 9[year;];");
        Checks.law(h, "person * reign");
        Checks.due("by the years ruled", h.after(1), 3);
        Checks.due("then for none", h.after(2), 0);
    }

    private static void feints() {
        FarthestHeir h = four();
        Checks.due("by none", h.feint(0, 0), -1);
        Checks.due("by none", h.feint(0, 1), -1);
        Checks.due("by two", h.feint(2, 0), 2);
        Checks.due("by two", h.feint(2, 1), 280);
        Checks.due("is heir", h.feint(3, 0), 0);
        Checks.due("is heir", h.feint(3, 1), 555);
        Checks.due("duke", h.feint(1, 0), -1);
        Checks.due("duke", h.feint(1, 1), -1);
        Checks.noSuch("none", () -> h.feint(4, 2));
        Checks.illegal("what", () -> h.feint(0, 2));
        Checks.illegal("what", () -> h.feint(1, -1));
        Checks.law(h, "feints * 30");
        Checks.due("any trait", h.feint(3, 0), 1);
        Checks.due("the least numbers", h.feint(3, 1), 455);
        Checks.due("the first is heir", h.feint(0, 0), 0);
        Checks.work(h, "feign 2 1 0;");
        Checks.due("as much is enough ahead of it", h.feint(0, 0), 1);
        Checks.due("the least numbers", h.feint(0, 1), 23);
        Checks.due("more is needed behind it", h.feint(3, 0), 2);
        Checks.due("the least numbers", h.feint(3, 1), 445);
        Checks.due("from what it shows", h.feint(2, 1), 400);
        Checks.work(h, "die 3;");
        Checks.due("dead", h.feint(3, 0), -1);
        Checks.due("nobody", nobody().feint(2, 1), -1);
        FarthestHeir two = Checks.ruled("person 0 0 0;person 0 0 0;");
        Checks.due("alone with the duke", two.feint(1, 1), 0);
    }

    private static void rings() {
        FarthestHeir h = four();
        int[] tails = {1, 0, 1, 0};
        for (int p = 0; p < 4; p++) {
            Checks.due("tail " + p, h.ring(p, 0), tails[p]);
            Checks.due("round " + p, h.ring(p, 1), 2);
        }
        Checks.noSuch("none", () -> h.ring(4, 7));
        Checks.illegal("what", () -> h.ring(0, 2));
        Checks.illegal("what", () -> h.ring(0, -1));
        Checks.law(h, "(person * 2 + nose) % 5");
        Checks.work(h, "die 3;");
        Checks.due("a dead one", h.ring(3, 0) + 10 * h.ring(3, 1), ring(h, 3));
        Checks.due("one alone", oneLeft().ring(0, 0), 0);
        Checks.due("one alone", oneLeft().ring(3, 1), 0);
        Checks.due("nobody", nobody().ring(1, 1), 0);
        FarthestHeir two = Checks.ruled("person 1 1 1;person 2 2 2;person 3 3 3;");
        Checks.work(two, "die 0;");
        Checks.due("from a dead one to two", two.ring(0, 0), 1);
        Checks.due("from a dead one to two", two.ring(0, 1), 2);
    }

    /** TAIL and 10 times ROUND, found by far alone. */
    private static int ring(FarthestHeir h, int from) {
        StringBuilder way = new StringBuilder();
        int at = from;
        while (way.indexOf("" + at) < 0) {
            way.append(at);
            int best = -1;
            for (int p = 0; p < h.told(0); p++) {
                if (p != at && h.person(p, 7) == 1 && (best < 0 || h.far(p, at) > h.far(best, at))) {
                    best = p;
                }
            }
            at = best;
        }
        int tail = way.indexOf("" + at);
        return tail + 10 * (way.length() - tail);
    }

    private static void like(FarthestHeir h, String book, int many, int first) {
        Checks.book(h, book);
        Checks.due("like by '" + book + "'", h.like(0), many);
        Checks.due("first like by '" + book + "'", h.like(1), first);
    }

    private static void likes() {
        FarthestHeir h = Checks.ruled(FOUR);
        like(h, "", 1000, 0);
        like(h, "0 0;", 1, 123);
        like(h, "0 0;1 8;", 1, 123);
        like(h, "0 0;1 9;", 0, -1);
        like(h, "4 0;", 0, -1);
        like(h, "7 99;", 0, -1);
        Checks.law(h, "nose");
        like(h, "1 8;", 100, 100);
        like(h, "2 2;", 200, 200);
        like(h, "2 2;0 5;", 100, 600);
        Checks.illegal("what", () -> h.like(2));
        Checks.illegal("what", () -> h.like(-1));
        Checks.work(h, "feign 0 0 0;year;year;die 0;");
        like(h, "0 5;", 100, 500);
        Checks.law(h, "nose + reign * 10 + feints * 30 + age");
        like(h, "0 71;", 0, -1);
        like(h, "0 72;", 100, 0);
        like(h, "0 75;", 100, 300);
        like(h, "0 82;", 0, -1);
        Checks.law(h, "temper * 10 + cat");
        like(h, "0 70;", 10, 93);
    }

    private static void asks() {
        FarthestHeir h = Checks.ruled(FOUR);
        Checks.law(h, "nose");
        Checks.due("whom", h.ask(0), 1);
        Checks.due("left", h.ask(1), 100);
        Checks.book(h, "2 2;");
        Checks.due("whom next", h.ask(0), 0);
        Checks.due("left then", h.ask(1), 100);
        Checks.book(h, "1 99;");
        Checks.due("of none the first", h.ask(0), 0);
        Checks.due("none left", h.ask(1), 0);
        Checks.book(h, "3 1;2 1;1 1;0 1;");
        Checks.due("all are in lines", h.ask(0), -1);
        Checks.due("all are in lines", h.ask(1), -1);
        Checks.book(h, "");
        Checks.work(h, "die 1;");
        Checks.due("a dead one", h.ask(0), 1);
        Checks.illegal("what", () -> h.ask(2));
        Checks.illegal("what", () -> h.ask(-1));
        Checks.due("nobody there", new FarthestHeir().ask(1), -1);
        Checks.work(h, "die 0;die 2;die 3;");
        Checks.due("the dead alone", h.ask(0), 1);
        Checks.law(h, "99");
        Checks.due("all are left", h.ask(1), 1000);
    }

    private static void pairs() {
        FarthestHeir h = four();
        Checks.due("pairs", h.pairs(), 24);
        int[] mates = {3, 2, 1, 0};
        for (int p = 0; p < 4; p++) {
            Checks.due("mate of " + p, h.mate(p), mates[p]);
        }
        Checks.noSuch("no mate", () -> h.mate(4));
        Checks.noSuch("no mate", () -> h.mate(-1));
        Checks.work(h, "die 0;");
        Checks.due("of three", h.pairs(), 13);
        Checks.due("of three", h.mate(1), 3);
        Checks.due("alone", h.mate(2), -1);
        Checks.due("dead", h.mate(0), -1);
        Checks.law(h, "5");
        Checks.due("the least mate", h.mate(1), 2);
        Checks.due("none last", h.mate(3), -1);
        Checks.due("one left", oneLeft().pairs(), 0);
        Checks.due("one left", oneLeft().mate(3), -1);
        Checks.due("nobody", nobody().pairs(), 0);
        FarthestHeir eight = Checks.ruled(Checks.times("person 3 3 3;", 8));
        Checks.law(eight, "0");
        for (int p = 0; p < 8; p++) {
            Checks.due("alike mate of " + p, eight.mate(p), p ^ 1);
        }
    }

    private static void row(FarthestHeir h, int n, int... due) {
        Checks.due("row " + n, h.row(n), due.length);
        for (int k = 0; k < due.length; k++) {
            Checks.due("rowed " + n + " " + k, h.rowed(n, k), due[k]);
        }
        Checks.due("rowed " + n + " behind", h.rowed(n, due.length), -1);
    }

    private static void rows() {
        FarthestHeir h = four();
        row(h, 8, 0, 1, 2, 3);
        row(h, 11, 0, 1, 2);
        row(h, 12, 0, 3);
        row(h, 14, 0);
        row(h, 0, 0, 1, 2, 3);
        Checks.due("far behind", h.rowed(0, Integer.MAX_VALUE), -1);
        Checks.illegal("row", () -> h.row(-1));
        Checks.illegal("row", () -> h.row(100));
        Checks.illegal("rowed", () -> h.rowed(100, 0));
        Checks.illegal("rowed", () -> h.rowed(0, -1));
        Checks.work(h, "die 1;");
        row(h, 8, 0, 2, 3);
        row(nobody(), 0);
        row(oneLeft(), 99, 3);
        Checks.law(h, "nose + 20 - person * 6");
        row(h, 10, 3, 0, 2);
    }

    private static void children() {
        FarthestHeir h = four();
        Checks.due("of whom", h.child(0), 2);
        Checks.due("how far", h.child(1), 19);
        Checks.illegal("what", () -> h.child(2));
        Checks.illegal("what", () -> h.child(-1));
        Checks.work(h, "feign 0 0 9;feign 2 0 9;");
        Checks.due("as they are", h.child(1), 19);
        Checks.work(h, "feign 1 0 0;");
        Checks.due("from what he shows", h.child(0), 13);
        Checks.due("from what he shows", h.child(1), 19);
        Checks.work(h, "die 3;");
        Checks.due("of the living", h.child(0), 12);
        Checks.law(h, "feints * 50 + age + person");
        Checks.due("newly born", h.child(1), 4);
        Checks.due("the first two", h.child(0), 1);
        FarthestHeir eight = Checks.ruled(Checks.times("person 3 3 3;", 8));
        Checks.law(eight, "person");
        Checks.due("a ninth", eight.child(1), 8);
        Checks.due("one left", oneLeft().child(0), -1);
        Checks.due("one left", oneLeft().child(1), -1);
        Checks.due("nobody", nobody().child(1), -1);
    }

    private static void middling() {
        FarthestHeir h = four();
        Checks.due("who", h.middling(0), 3);
        Checks.due("how far", h.middling(1), 7);
        Checks.work(h, "die 3;");
        Checks.due("of three", h.middling(0), 2);
        Checks.due("of three", h.middling(1), 8);
        Checks.law(h, "99");
        Checks.due("the first", h.middling(0), 0);
        Checks.due("the most", h.middling(1), 99);
        Checks.illegal("what", () -> h.middling(2));
        Checks.illegal("what", () -> h.middling(-1));
        Checks.work(h, "die 0;");
        Checks.law(h, LAW);
        Checks.due("of two", h.middling(0), 2);
        Checks.due("of two", h.middling(1), 8);
        Checks.due("one left", oneLeft().middling(0), -1);
        Checks.due("nobody", nobody().middling(1), -1);
    }

    private static void chance(int n, int k, int q, long above, long below) {
        FarthestHeir h = new FarthestHeir();
        Checks.due("chance above " + n + " " + k + " " + q, h.chance(n, k, q, 0), above);
        Checks.due("chance below " + n + " " + k + " " + q, h.chance(n, k, q, 1), below);
    }

    private static void chances() {
        chance(2, 1, 8, 3, 4);
        chance(3, 2, 4, 5, 32);
        chance(0, 0, 0, 1, 1);
        chance(0, 1, 5, 0, 1);
        chance(1, 1, 1, 1, 16);
        chance(12, 12, 16, 1, 1);
        chance(12, 13, 16, 0, 1);
        chance(12, 12, 1, 1, 281474976710656L);
        chance(12, 12, 15, 129746337890625L, 281474976710656L);
        chance(12, 1, 15, 281474976710655L, 281474976710656L);
        chance(5, 0, 7, 1, 1);
        chance(4, 1, 0, 0, 1);
        chance(12, 3, 5, 218421097505625L, 281474976710656L);
        chance(12, 6, 8, 1255, 2048);
        FarthestHeir h = new FarthestHeir();
        Checks.illegal("n", () -> h.chance(13, 0, 0, 0));
        Checks.illegal("n", () -> h.chance(-1, 0, 0, 0));
        Checks.illegal("k", () -> h.chance(1, 14, 0, 0));
        Checks.illegal("k", () -> h.chance(1, -1, 0, 0));
        Checks.illegal("q", () -> h.chance(1, 1, 17, 0));
        Checks.illegal("q", () -> h.chance(1, 1, -1, 0));
        Checks.illegal("part", () -> h.chance(1, 1, 1, 2));
        Checks.illegal("part", () -> h.chance(1, 1, 1, -1));
    }

    private static void rest(int v, int w, int many, int first, int together) {
        FarthestHeir h = new FarthestHeir();
        Checks.due("rests " + v + " " + w, h.feigning(v, w, 0), many);
        Checks.due("first rest " + v + " " + w, h.feigning(v, w, 1), first);
        Checks.due("together " + v + " " + w, h.feigning(v, w, 2), together);
    }

    private static void rests() {
        rest(10, 3, 1, 0, 4);
        rest(4, 3, 1, 11, 4);
        rest(0, 0, 4, 0, 0);
        rest(7, 3, 3, 0, 0);
        rest(9, 5, 3, 1, 4);
        rest(10, 5, 4, 0, 0);
        rest(99, 99, 1, 11, 98);
        rest(1, 1, 3, 1, 0);
        FarthestHeir h = new FarthestHeir();
        Checks.illegal("v", () -> h.feigning(100, 0, 0));
        Checks.illegal("v", () -> h.feigning(-1, 0, 0));
        Checks.illegal("w", () -> h.feigning(0, 100, 0));
        Checks.illegal("w", () -> h.feigning(0, -1, 0));
        Checks.illegal("what", () -> h.feigning(0, 0, 3));
        Checks.illegal("what", () -> h.feigning(0, 0, -1));
    }

    private static void shares(FarthestHeir h, int persons, int n, int... due) {
        for (int p = 0; p < due.length; p++) {
            Checks.due("land of " + p + " among " + persons + " by " + n, h.land(p, persons, n), due[p]);
        }
    }

    private static void land() {
        FarthestHeir h = four();
        shares(h, 15, 0, 0, 0, 0, 0);
        shares(h, 15, 20, 6, 0, 6, 6);
        shares(h, 15, 27, 8, 0, 9, 9);
        shares(h, 15, 31, 8, 0, 11, 12);
        shares(h, 15, 32, 8, 0, 11, 13);
        shares(h, 15, 999, 8, 0, 11, 13);
        shares(h, 9, 20, 8, 0, 0, 12);
        shares(h, 0, 20, 0, 0, 0, 0);
        shares(h, 2, 20, 0, 0, 0, 0);
        Checks.work(h, "die 2;");
        shares(h, 15, 20, 8, 0, 0, 12);
        Checks.noSuch("none", () -> h.land(4, 0, 0));
        Checks.illegal("bits", () -> h.land(0, 16, 0));
        Checks.illegal("bits", () -> h.land(0, -1, 0));
        Checks.illegal("bits", () -> h.land(0, Integer.MIN_VALUE, 0));
        Checks.illegal("n", () -> h.land(0, 1, 1000));
        Checks.illegal("n", () -> h.land(0, 1, -1));
        shares(nobody(), 15, 50, 0, 0, 0, 0);
        FarthestHeir all = Checks.ruled(Checks.times("person 3 3 3;", 8));
        Checks.law(all, "99");
        shares(all, 255, 692, 0, 98, 98);
        shares(all, 255, 693, 0, 99, 99);
    }

    private static void oldest() {
        FarthestHeir h = four();
        Checks.due("the first", h.oldest(0), 0);
        Checks.due("age", h.oldest(1), 20);
        Checks.work(h, "birth 0 1;year;die 0;year;");
        Checks.due("who lives", h.oldest(0), 1);
        Checks.due("age then", h.oldest(1), 22);
        Checks.work(h, "die 1;die 2;die 3;");
        Checks.due("the child", h.oldest(0), 4);
        Checks.due("its age", h.oldest(1), 2);
        Checks.due("nobody", nobody().oldest(0), -1);
        Checks.due("nobody", nobody().oldest(1), -1);
        Checks.illegal("what", () -> h.oldest(2));
        Checks.illegal("what", () -> h.oldest(-1));
    }

    private static void alike() {
        FarthestHeir h = Checks.ruled("person 1 1 1;person 2 2 2;person 2 2 2;person 2 2 1;person 2 2 2;");
        Checks.due("pairs", h.alike(0), 3);
        Checks.due("first", h.alike(1), 12);
        Checks.work(h, "die 1;feign 3 2 2;");
        Checks.due("by what they show", h.alike(0), 3);
        Checks.due("of the living", h.alike(1), 23);
        Checks.due("of all the first", Checks.ruled("person 1 1 1;person 1 1 1;").alike(1), 1);
        Checks.due("none", Checks.ruled(FOUR).alike(0), 0);
        Checks.due("none", Checks.ruled(FOUR).alike(1), -1);
        Checks.illegal("what", () -> h.alike(2));
        Checks.illegal("what", () -> h.alike(-1));
    }

    private static void beyond() {
        FarthestHeir h = four();
        Checks.due("from 0", h.beyond(0, 11), 10);
        Checks.due("from 1", h.beyond(1, 11), 12);
        Checks.due("just as far", h.beyond(1, 8), 13);
        Checks.due("all but itself", h.beyond(2, 0), 11);
        Checks.work(h, "die 0;die 3;");
        Checks.due("from a dead one", h.beyond(0, 0), 6);
        Checks.noSuch("none", () -> h.beyond(4, 100));
        Checks.illegal("n", () -> h.beyond(0, 100));
        Checks.illegal("n", () -> h.beyond(0, -1));
    }

    private static void nearestAndRank() {
        FarthestHeir h = four();
        Checks.due("nearest", h.nearest(0), 0);
        Checks.due("how far", h.nearest(1), 8);
        int[] due = {3, 2, 0, -1, -1};
        for (int k = 0; k < due.length; k++) {
            Checks.due("rank " + k, h.rank(k), due[k]);
        }
        Checks.due("rank", h.rank(Integer.MAX_VALUE), -1);
        Checks.illegal("rank", () -> h.rank(-1));
        Checks.illegal("nearest", () -> h.nearest(2));
        Checks.illegal("nearest", () -> h.nearest(-1));
        Checks.law(h, "5");
        Checks.due("the first of alike ones", h.nearest(0), 0);
        Checks.due("alike ones by numbers", h.rank(1), 2);
        Checks.work(h, "die 0;");
        Checks.due("of the living", h.nearest(0), 2);
        Checks.due("of the living", h.rank(0), 2);
        Checks.law(h, "0");
        Checks.due("far 0", h.nearest(1), 0);
        Checks.law(h, "99");
        Checks.due("far 99", h.nearest(0), 2);
        Checks.due("far 99", h.nearest(1), 99);
        Checks.due("one left", oneLeft().nearest(1), -1);
        Checks.due("one left", oneLeft().rank(0), -1);
        Checks.due("nobody", nobody().nearest(0), -1);
        Checks.due("nobody", nobody().rank(0), -1);
    }

    private static void spread() {
        FarthestHeir h = four();
        int[] least = {1, 2, 0};
        int[] most = {9, 8, 5};
        for (int t = 0; t < 3; t++) {
            Checks.due("least " + t, h.spread(t, 0), least[t]);
            Checks.due("most " + t, h.spread(t, 1), most[t]);
        }
        Checks.work(h, "die 0;feign 1 0 7;");
        Checks.due("of the living", h.spread(0, 0), 4);
        Checks.due("as shown", h.spread(0, 1), 7);
        Checks.due("nobody", nobody().spread(1, 0), -1);
        Checks.due("nobody", nobody().spread(2, 1), -1);
        Checks.illegal("trait", () -> h.spread(3, 0));
        Checks.illegal("trait", () -> h.spread(-1, 0));
        Checks.illegal("what", () -> h.spread(0, 2));
        Checks.illegal("what", () -> h.spread(0, -1));
    }

    private static void masks() {
        FarthestHeir h = four();
        Checks.due("none", h.masks(0), 0);
        Checks.work(h, "feign 0 0 5;feign 0 2 5;feign 3 1 1;die 3;");
        Checks.due("two", h.masks(0), 5);
        Checks.due("dead", h.masks(3), 2);
        Checks.noSuch("none", () -> h.masks(4));
        Checks.noSuch("none", () -> h.masks(-1));
    }

    private static void mild() {
        FarthestHeir h = four();
        Checks.due("7", h.mild(7), 0);
        Checks.due("8", h.mild(8), 1);
        Checks.due("11", h.mild(11), 7);
        Checks.due("13", h.mild(13), 15);
        Checks.work(h, "die 1;");
        Checks.due("of the living", h.mild(4), 1);
        Checks.due("one left", oneLeft().mild(0), 8);
        Checks.due("nobody", nobody().mild(99), 0);
        Checks.illegal("n", () -> h.mild(100));
        Checks.illegal("n", () -> h.mild(-1));
    }

    private static void unlike() {
        FarthestHeir h = four();
        Checks.due("nose", h.unlike(0), 1);
        Checks.due("all", h.unlike(2), 7);
        Checks.due("he", h.unlike(1), 0);
        Checks.work(h, "feign 0 0 9;feign 0 2 4;feign 1 1 3;die 3;");
        Checks.due("as shown", h.unlike(0), 6);
        Checks.due("dead", h.unlike(3), 7);
        Checks.due("no duke", nobody().unlike(0), 0);
        Checks.noSuch("none", () -> h.unlike(4));
        Checks.noSuch("none", () -> h.unlike(-1));
    }
}
