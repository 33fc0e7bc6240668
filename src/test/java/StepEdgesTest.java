/** The edges that 'Terms', ==== 2., names: the first YEAR, STEPS that are REFUSED, how many are begun, who is HEIR. */
public final class StepEdgesTest {
    private static final String FOUR = "person 1 2 3;person 9 2 3;person 4 8 0;person 5 5 5;duke 1;";
    private static final String EIGHT = Checks.times("person 3 3 3;", 8);

    public static void main(String[] args) {
        atFirst();
        notYetBorn();
        refusedChangesNothing();
        inOrder();
        twoHundred();
        againsAreBegunToo();
        refusedAreBegunToo();
        timesOfAgain();
        feign();
        drop();
        birth();
        birthRefused();
        die();
        dukeDies();
        year();
        lastYear();
        heir();
        heirOfADeadDuke();
        Checks.end();
    }

    /** How many STEPS are done, and how many are REFUSED. */
    private static void work(FarthestHeir h, String text, int done, int refused) {
        Checks.due("'" + text + "'", Checks.work(h, text), done);
        Checks.due("refused by '" + text + "'", h.told(10), refused);
    }

    private static void atFirst() {
        Checks.of("YEAR 0 at first; all told PERSONS live, of age 20, and show what they are; the DUKE rules for 0 YEARS");
        FarthestHeir h = Checks.ruled(FOUR);
        Checks.work(h, "year;feign 0 0 9;die 1;birth 0 2;");
        Checks.dukedom(h, EIGHT + "duke 7;");
        Checks.due("the year", h.told(5), 0);
        Checks.due("all live", h.told(1), 255);
        Checks.due("the duke", h.told(2), 7);
        Checks.due("rules for none", h.told(3), 0);
        Checks.due("nobody feigns", h.told(6), 0);
        Checks.due("one duke", h.told(7), 1);
        for (int p = 0; p < 8; p++) {
            Checks.due("age of " + p, h.person(p, 6), 20);
            Checks.due("nose of " + p, h.person(p, 0), 3);
        }
        Checks.of("without PERSONS there is no DUKE");
        Checks.dukedom(h, "land 5;");
        int[] told = {0, 0, -1, 0, -1, 0, 0, 0, 5, 0, 0};
        for (int what = 0; what < told.length; what++) {
            Checks.due("told " + what, h.told(what), told[what]);
        }
        work(h, "year;", 1, 0);
        Checks.due("none rules", h.told(3), 0);
    }

    private static void notYetBorn() {
        Checks.of("Who is not yet born, is no PERSON");
        FarthestHeir h = Checks.ruled("person 1 2 3;person 4 5 6;");
        work(h, "feign 2 0 9;drop 2;die 2;birth 0 2;birth 2 0;", 0, 5);
        Checks.noSuch("ahead of the birth", () -> h.person(2, 0));
        work(h, "feign 2 0 9;birth 0 1;feign 2 0 9;drop 2;birth 2 1;die 2;", 5, 1);
        Checks.due("behind the birth", h.person(2, 7), 0);
        Checks.due("of it", h.person(3, 7), 1);
        Checks.undone(h, 1);
        Checks.noSuch("the birth undone", () -> h.person(2, 0));
    }

    private static void refusedChangesNothing() {
        Checks.of("one that can't be done is REFUSED, and changes nothing");
        String[] steps = {"feign 3 0 1;", "feign 5 0 1;", "feign 0 0 7;", "feign 1 2 3;", "drop 1;", "drop 5;", "birth 0 0;",
            "birth 3 0;", "birth 0 3;", "birth 5 0;", "birth 0 7;", "die 3;", "die 5;", "die 7;"};
        for (String step : steps) {
            FarthestHeir h = Checks.ruled(FOUR);
            Checks.work(h, "year;feign 0 0 7;feign 3 1 0;birth 0 2;die 3;");
            String before = Picture.ofWork(h).replace("works 1", "works 2");
            work(h, step, 0, 1);
            Checks.same("behind '" + step + "'", Picture.ofWork(h), before);
        }
    }

    private static void inOrder() {
        Checks.of("STEPS are done in order");
        FarthestHeir h = Checks.ruled(FOUR);
        work(h, "feign 0 0 7;feign 0 0 8;", 2, 0);
        Checks.due("the last one counts", h.person(0, 0), 8);
        work(h, "drop 0;feign 0 0 7;drop 0;drop 0;", 3, 1);
        work(h, "die 2;feign 2 0 9;birth 2 0;", 1, 2);
        work(h, "year;birth 0 1;year;", 3, 0);
        Checks.due("born between", h.person(4, 6), 1);
    }

    private static void twoHundred() {
        Checks.of("200 STEPS at most are begun by one WORK, what would come behind is left out");
        String most = "again 60[year;];again 60[year;];again 60[year;];again ";
        FarthestHeir h = Checks.ruled(FOUR);
        work(h, most + "16[year;];", 196, 0);
        Checks.undone(h, 1);
        work(h, most + "16[year;];year;", 196, 0);
        Checks.due("years", h.told(5), 196);
        Checks.undone(h, 1);
        work(h, most + "15[year;];year;die 0;", 196, 0);
        Checks.due("left out", h.person(0, 7), 1);
        Checks.undone(h, 1);
        work(h, most + "14[year;];year;die 0;die 0;", 196, 0);
        Checks.due("still begun", h.person(0, 7), 0);
        Checks.undone(h, 1);
        work(h, most + "60[year;];", 196, 0);
        Checks.undone(h, 1);
        work(h, most + "17[year;];", 196, 0);
        Checks.due("each WORK has its own", Checks.work(h, most + "16[year;];"), 196);
        Checks.due("years together", h.told(5), 392);
    }

    private static void againsAreBegunToo() {
        Checks.of("an again, too, each time it is come to");
        FarthestHeir h = Checks.ruled(FOUR);
        // 183 are begun by the first three, 16 by the fourth.
        String most = "again 60[year;];again 60[year;];again 60[year;];again 15[year;];";
        work(h, most + "again 5[year;];", 195, 0);
        Checks.undone(h, 1);
        work(h, most + "again 0[];year;", 195, 0);
        Checks.undone(h, 1);
        String empty = "again 60[again 0[];];again 60[again 0[];];again 60[again 0[];];again ";
        work(h, empty + "15[again 0[];];year;year;", 1, 0);
        Checks.undone(h, 1);
        work(h, empty + "16[again 0[];];year;", 0, 0);
        Checks.undone(h, 1);
        work(h, "again 60[again 60[again 60[];];];year;", 0, 0);
        work(h, "again 3[again 60[again 1[];];];again 14[];year;", 1, 0);
        // Ten times an again with 19 years make 200, with the outer one 201.
        work(h, "again 10[again 19[year;];];", 189, 0);
    }

    private static void refusedAreBegunToo() {
        Checks.of("200 STEPS at most are begun; REFUSED ones, too");
        FarthestHeir h = Checks.ruled(FOUR);
        String most = "again 60[die 7;];again 60[die 7;];again 60[die 7;];again ";
        work(h, most + "15[die 7;];year;year;", 1, 195);
        work(h, most + "16[die 7;];year;", 0, 196);
        work(h, most + "17[die 7;];", 0, 196);
    }

    private static void timesOfAgain() {
        Checks.of("\"again\" N \"[\" { STEP \";\" } \"]\" (N 0 to 60), done");
        FarthestHeir h = Checks.ruled(FOUR);
        work(h, "again 0[year;];", 0, 0);
        work(h, "again 1[year;];", 1, 0);
        work(h, "again 2[again 0[year;];year;];year;", 3, 0);
        work(h, "again 2[year;again 0[year;];];year;", 3, 0);
        work(h, "again 3[again 2[again 0[year;];];year;];", 3, 0);
        work(h, "again 0[again 5[year;];year;];year;", 1, 0);
        work(h, "again 2[again 2[];year;again 3[];];year;", 3, 0);
        work(h, "again 60[];year;", 1, 0);
        work(h, "again 60[year;];", 60, 0);
        work(h, "again 2[feign 0 0 7;drop 0;drop 0;];", 4, 2);
    }

    private static void feign() {
        Checks.of("feign: P shows N as TRAIT T (REFUSED, if P is no PERSON, is dead, or shows that)");
        FarthestHeir h = Checks.ruled(FOUR);
        work(h, "feign 0 0 0;feign 0 1 9;feign 0 2 0;", 3, 0);
        int[] shown = {0, 9, 0};
        int[] own = {1, 2, 3};
        for (int t = 0; t < 3; t++) {
            Checks.due("shows " + t, h.person(0, t), shown[t]);
            Checks.due("is " + t, h.person(0, 3 + t), own[t]);
        }
        Checks.due("feigns all", h.masks(0), 7);
        work(h, "feign 0 0 0;feign 0 1 9;feign 0 2 0;", 0, 3);
        work(h, "feign 2 2 0;feign 4 0 0;feign 7 0 0;", 0, 3);
        work(h, "feign 0 1 2;", 1, 0);
        Checks.of("FEIGNS: shows another number than he is");
        Checks.due("what he is, is no feint", h.masks(0), 5);
        work(h, "feign 0 0 1;feign 0 2 3;drop 0;", 2, 1);
        Checks.due("none feigns", h.told(6), 0);
        work(h, "feign 1 0 8;", 1, 0);
        Checks.due("the duke, too", h.told(6), 2);
        work(h, "die 3;feign 3 0 0;feign 3 0 5;", 1, 2);
    }

    private static void drop() {
        Checks.of("drop: P shows what he is (REFUSED, if P is no PERSON, or feigns none)");
        FarthestHeir h = Checks.ruled(FOUR);
        work(h, "drop 0;drop 3;drop 4;drop 7;", 0, 4);
        work(h, "feign 2 0 0;feign 2 1 0;feign 2 2 9;feign 3 0 0;feign 1 2 9;drop 2;", 6, 0);
        Checks.due("all three", h.masks(2), 0);
        Checks.due("others still feign", h.told(6), 10);
        Checks.due("shows", h.person(2, 0), 4);
        work(h, "drop 2;", 0, 1);
        work(h, "die 3;drop 3;drop 3;", 2, 1);
        Checks.due("a dead one shows what he is", h.person(3, 0), 5);
    }

    private static void birth() {
        Checks.of("birth: a PERSON more, of age 0, each TRAIT half (cut) of what A and B are together");
        FarthestHeir h = Checks.ruled("person 0 9 0;person 1 8 0;person 9 9 9;");
        work(h, "feign 0 0 9;feign 1 1 0;birth 0 1;birth 1 0;birth 2 0;birth 4 3;", 6, 0);
        int[][] due = {{0, 8, 0}, {0, 8, 0}, {4, 9, 4}, {0, 8, 0}};
        for (int i = 0; i < due.length; i++) {
            for (int t = 0; t < 3; t++) {
                Checks.due("child " + i + " shows " + t, h.person(3 + i, t), due[i][t]);
                Checks.due("child " + i + " is " + t, h.person(3 + i, 3 + t), due[i][t]);
            }
            Checks.due("child " + i + " is of age", h.person(3 + i, 6), 0);
            Checks.due("child " + i + " lives", h.person(3 + i, 7), 1);
        }
        Checks.due("seven", h.told(0), 7);
        Checks.due("the duke stays", h.told(2), 0);
        FarthestHeir most = Checks.ruled("person 9 9 9;person 9 9 9;");
        Checks.work(most, "birth 0 1;");
        Checks.due("the most", most.person(2, 0), 9);
    }

    private static void birthRefused() {
        Checks.of("birth (REFUSED, if one is no PERSON, or dead, A is B, or there are 8)");
        FarthestHeir h = Checks.ruled(FOUR);
        work(h, "birth 0 4;birth 4 0;birth 7 0;birth 4 4;", 0, 4);
        work(h, "die 3;birth 0 3;birth 3 0;birth 3 3;", 1, 3);
        work(h, "birth 0 0;birth 2 2;", 0, 2);
        work(h, "birth 0 1;birth 0 1;birth 0 1;birth 0 1;", 4, 0);
        Checks.due("eight", h.told(0), 8);
        work(h, "birth 0 1;", 0, 1);
        work(h, "die 4;die 5;birth 0 1;", 2, 1);
        Checks.due("dead ones count", h.told(0), 8);
        FarthestHeir eight = Checks.ruled(EIGHT);
        work(eight, "birth 6 7;", 0, 1);
        FarthestHeir seven = Checks.ruled(Checks.times("person 3 3 3;", 7));
        work(seven, "again 2[birth 5 6;];", 1, 1);
        Checks.due("the eighth lives", seven.told(1), 255);
    }

    private static void die() {
        Checks.of("die: P is dead (REFUSED, if P is no PERSON, or dead)");
        FarthestHeir h = Checks.ruled(FOUR);
        work(h, "die 4;die 7;", 0, 2);
        work(h, "die 0;die 0;", 1, 1);
        Checks.due("lives not", h.person(0, 7), 0);
        Checks.due("others live", h.told(1), 14);
        Checks.due("the duke stays", h.told(2), 1);
        Checks.due("no duke more", h.told(7), 1);
        work(h, "die 2;die 3;die 1;die 1;", 3, 1);
        work(h, "die 0;die 1;die 2;die 3;", 0, 4);
        work(new FarthestHeir(), "die 0;", 0, 1);
    }

    private static void dukeDies() {
        Checks.of("was he the DUKE, his HEIR is DUKE, for 0 YEARS (none, if there is no HEIR)");
        FarthestHeir h = Checks.ruled(FOUR);
        work(h, "again 5[year;];die 1;", 6, 0);
        Checks.due("the heir", h.told(2), 2);
        Checks.due("for none", h.told(3), 0);
        Checks.due("dukes", h.told(7), 2);
        work(h, "year;die 3;", 2, 0);
        Checks.due("rules on", h.told(3), 1);
        work(h, "die 2;", 1, 0);
        Checks.due("the last one", h.told(2), 0);
        Checks.due("his heir", h.told(4), -1);
        work(h, "year;year;die 0;", 3, 0);
        Checks.due("none", h.told(2), -1);
        Checks.due("none rules", h.told(3), 0);
        Checks.due("none is no duke more", h.told(7), 3);
        work(h, "year;", 1, 0);
        Checks.due("none rules on", h.told(3), 0);
    }

    private static void year() {
        Checks.of("year: all who live are a YEAR older, the DUKE rules a YEAR more; the YEAR is one more");
        FarthestHeir h = Checks.ruled(FOUR);
        work(h, "year;die 3;birth 0 2;year;die 1;year;", 6, 0);
        int[] ages = {23, 22, 23, 21, 2};
        for (int p = 0; p < ages.length; p++) {
            Checks.due("age of " + p, h.person(p, 6), ages[p]);
        }
        Checks.due("year", h.told(5), 3);
        Checks.due("reign", h.told(3), 1);
        FarthestHeir none = new FarthestHeir();
        work(none, "year;year;", 2, 0);
        Checks.due("without people", none.told(5), 2);
        Checks.due("without people none rules", none.told(3), 0);
    }

    private static void lastYear() {
        Checks.of("year (REFUSED from YEAR 900 on)");
        FarthestHeir h = Checks.ruled(FOUR);
        Checks.passed(h, 899);
        Checks.due("year 899", h.told(5), 899);
        work(h, "year;year;year;", 1, 2);
        Checks.due("year 900", h.told(5), 900);
        Checks.due("reign 900", h.told(3), 900);
        Checks.due("age 920", h.person(3, 6), 920);
        work(h, "die 1;year;birth 0 2;again 60[year;];", 2, 61);
        Checks.due("still year 900", h.told(5), 900);
        Checks.due("the new one rules for none", h.told(3), 0);
        Checks.due("the child is of age 0", h.person(4, 6), 0);
        Checks.undone(h, 2);
        work(h, "year;", 1, 0);
    }

    private static void heir() {
        Checks.of("HEIR: of all who live, but the DUKE, that one who is FAR most from him, of alike ones the first; NONE");
        FarthestHeir h = Checks.ruled(FOUR);
        Checks.law(h, "50");
        Checks.due("of alike ones the first", h.told(4), 0);
        Checks.work(h, "die 0;");
        Checks.due("but the duke", h.told(4), 2);
        Checks.law(h, "0");
        Checks.due("far 0 is enough", h.told(4), 2);
        Checks.law(h, "person");
        Checks.due("the most", h.told(4), 3);
        Checks.work(h, "die 3;");
        Checks.due("of all who live", h.told(4), 2);
        Checks.work(h, "die 2;");
        Checks.due("none", h.told(4), -1);
        Checks.due("none without people", new FarthestHeir().told(4), -1);
        Checks.of("HEIR: FAR from the DUKE as he shows himself");
        FarthestHeir mask = Checks.ruled("person 0 0 0;person 9 0 0;person 1 0 0;");
        Checks.due("as he is", mask.told(4), 1);
        Checks.work(mask, "feign 0 0 9;");
        Checks.due("as he shows himself", mask.told(4), 2);
        Checks.work(mask, "drop 0;feign 2 0 9;feign 1 0 8;");
        Checks.due("as they show themselves", mask.told(4), 2);
        FarthestHeir child = Checks.ruled("person 9 9 9;person 0 0 0;");
        Checks.law(child, "100 - age");
        Checks.work(child, "birth 0 1;");
        Checks.due("a child of age 0", child.told(4), 2);
    }

    private static void heirOfADeadDuke() {
        Checks.of("HEIR: a dead DUKE as he did");
        FarthestHeir h = Checks.ruled("person 0 0 0;person 9 0 0;person 1 0 0;");
        work(h, "feign 0 0 9;die 0;", 2, 0);
        Checks.due("as he showed himself", h.told(2), 2);
        Checks.undone(h, 1);
        work(h, "die 0;", 1, 0);
        Checks.due("as he was", h.told(2), 1);
        FarthestHeir years = Checks.ruled("person 0 0 0;person 5 0 0;person 0 0 0;");
        Checks.law(years, "nose + person * reign * 4");
        work(years, "die 0;", 1, 0);
        Checks.due("he ruled for none", years.told(2), 1);
        Checks.undone(years, 1);
        work(years, "year;year;die 0;", 3, 0);
        Checks.due("he ruled for two", years.told(2), 2);
    }
}
