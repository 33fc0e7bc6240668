/** Promises 1 to 7: a new object, the TAPE, and the four texts with their FAULTS. */
public final class TextsTest {
    public static void main(String[] args) {
        newObject();
        tape();
        textsEnd();
        dukedoms();
        dukedomFaults();
        dukedomForgets();
        laws();
        lawFaults();
        works();
        workFaults();
        worksFull();
        books();
        Checks.end();
    }

    private static void newObject() {
        FarthestHeir h = new FarthestHeir();
        int[] told = {0, 0, -1, 0, -1, 0, 0, 0, 10, 0, 0};
        for (int what = 0; what < told.length; what++) {
            Checks.due("new told " + what, h.told(what), told[what]);
        }
        Checks.due("new fault", h.fault(), -1);
        Checks.due("new undo", h.undo(), -1);
        Checks.due("new restore", h.restore(), -1);
        for (int what = 0; what < 3; what++) {
            Checks.due("new count " + what, h.count(what), 0);
        }
        Checks.due("new would", h.would(1, 2, 3, 0, 0, 0, 0, 0), 8);
        Checks.due("NONE", FarthestHeir.NONE, -1);
    }

    private static void tape() {
        FarthestHeir h = new FarthestHeir();
        for (int i = 1; i <= 30; i++) {
            Checks.due("feed " + i, h.feed(0, 0, 0, 0, 0), 20 * i);
        }
        Checks.due("feed 31", h.feed(0, 0, 0, 0, 0), -1);
        Checks.due("bytes", h.count(1), 600);
        Checks.illegal("n too great", () -> h.dukedom(601));
        Checks.illegal("n below 0", () -> h.dukedom(-1));
        Checks.illegal("law of 151", () -> h.law(151));
        Checks.illegal("work of 151", () -> h.work(151));
        Checks.illegal("book of 61", () -> h.book(61));
        Checks.due("the TAPE stays", h.count(1), 600);
        Checks.due("no text was read", h.fault(), -1);
        Checks.due("zeros", h.dukedom(600), -9);
        Checks.due("at 0", h.fault(), 0);
        Checks.due("empty then", h.count(1), 0);
        Checks.illegal("nothing there", () -> h.dukedom(1));
        Checks.due("fault stays", h.fault(), 0);
        h.feed(0x6c616e64, 0x20373b00, -1, -1, -1);
        Checks.due("highest byte first", h.dukedom(7), 0);
        Checks.due("land 7", h.told(8), 7);
        Checks.due("illegal ones", h.status(1), 6);
        h.feed(0x6c616e64, 0x203f3bff, 0, 0, 0);
        Checks.due("a byte that can't stand", h.dukedom(8), -9);
        Checks.due("there", h.fault(), 5);
    }

    /** The TAPE may hold more than the text. */
    private static void textsEnd() {
        FarthestHeir h = new FarthestHeir();
        Checks.feed(h, "nosebag");
        Checks.due("a word ends with the text", h.law(4), 1);
        Checks.feed(h, "1234");
        Checks.due("a number ends with the text", h.law(2), 1);
        Checks.due("it is 12", h.would(0, 0, 0, 0, 0, 0, 0, 0), 12);
        Checks.feed(h, "year; year");
        Checks.due("blanks end with the text", h.work(6), 1);
        Checks.feed(h, "0 1;");
        Checks.due("a sign ends with the text", h.book(3), -9);
        Checks.due("at the length", h.fault(), 3);
    }

    private static void dukedom(String text, int want, int fault) {
        FarthestHeir h = new FarthestHeir();
        Checks.due("dukedom '" + text + "'", Checks.dukedom(h, text), want);
        Checks.due("fault of dukedom '" + text + "'", h.fault(), fault);
        Checks.due("TAPE behind dukedom '" + text + "'", h.count(1), 0);
    }

    private static void dukedoms() {
        dukedom("", 0, -1);
        dukedom("    ", 0, -1);
        dukedom("person1 2 3;", 1, -1);
        dukedom("  person  1  2  3 ; duke 0 ; land 99 ;  ", 1, -1);
        dukedom("person 0001 9 0;", 1, -1);
        dukedom(Checks.times("person 1 2 3;", 8), 8, -1);
        dukedom(Checks.times("land 1;", 60), 0, -1);
        FarthestHeir h = Checks.ruled("person 1 2 3;duke 0;person 4 5 6;duke 1;land 3;land 5;");
        Checks.due("last duke counts", h.told(2), 1);
        Checks.due("last land counts", h.told(8), 5);
        Checks.due("dukes", h.told(7), 1);
        Checks.due("live", h.told(1), 3);
        Checks.due("age", h.person(1, 6), 20);
        for (int t = 0; t < 3; t++) {
            Checks.due("shows " + t, h.person(1, t), 4 + t);
            Checks.due("is " + t, h.person(1, 3 + t), 4 + t);
        }
        Checks.due("first is duke", Checks.ruled("person 1 2 3;person 4 5 6;").told(2), 0);
        Checks.due("all 600 bytes", Checks.dukedom(h, "person 1 2 3;" + Checks.times(" ", 587)), 1);
    }

    private static void dukedomFaults() {
        dukedom("x", -9, 0);
        dukedom("person", -9, 6);
        dukedom("person   ", -9, 9);
        dukedom("person 1 2 3", -9, 12);
        dukedom("person 12 3;", -8, 7);
        dukedom("person 10 9 9;", -8, 7);
        dukedom("person 9 10 9;", -8, 9);
        dukedom("person 9 9 10;", -8, 11);
        dukedom("personz 1 2 3;", -9, 0);
        dukedom("person 1 2 x;", -9, 11);
        dukedom("person 1 2 3 4;", -9, 13);
        dukedom("persona 1 2 3;", -9, 0);
        dukedom("Person 1 2 3;", -9, 0);
        dukedom("person 1 2 3;;", -9, 13);
        dukedom("person 1 2 3;7", -9, 13);
        dukedom("person 99999999999999999999 2 3;", -8, 7);
        dukedom("person 4294967296 2 3;", -8, 7);
        dukedom("duke 0;person 1 2 3;", -8, 5);
        dukedom("person 1 2 3;duke 1;person 1 2 3;", -8, 18);
        dukedom("land 100;", -8, 5);
        dukedom("land 100 x", -8, 5);
        dukedom("land;", -9, 4);
        dukedom(Checks.times("person 1 2 3;", 8) + "  person", -7, 106);
        dukedom(Checks.times("land 1;", 60) + " land", -7, 421);
        dukedom(Checks.times("land 1;", 60) + " lands", -9, 421);
        dukedom(Checks.times("land 1;", 60) + " ;", -9, 421);
        dukedom(Checks.times("land 1;", 60) + " duke 9;", -7, 421);
        dukedom(Checks.times("land 1;", 60) + "   ", 0, -1);
    }

    private static void dukedomForgets() {
        FarthestHeir h = Checks.ruled("person 1 2 3;person 4 5 6;land 4;");
        Checks.law(h, "7");
        Checks.book(h, "0 7;");
        h.image();
        Checks.work(h, "year;die 7;");
        Checks.due("faulty", Checks.dukedom(h, "person 1 2 3;land"), -9);
        Checks.due("persons stay", h.told(0), 2);
        Checks.due("land stays", h.told(8), 4);
        Checks.due("law stays", h.far(0, 1), 7);
        Checks.due("lines stay", h.told(9), 1);
        Checks.due("images stay", h.count(0), 1);
        Checks.due("works stay", h.count(2), 1);
        Checks.due("year stays", h.told(5), 1);
        Checks.due("refused stays", h.told(10), 1);
        Checks.due("a new one", Checks.dukedom(h, "person 1 2 3;person 4 5 6;person 0 0 0;"), 3);
        Checks.due("no law", h.far(0, 1), 12);
        Checks.due("no lines", h.told(9), 0);
        Checks.due("no images", h.count(0), 0);
        Checks.due("no works", h.count(2), 0);
        Checks.due("year 0", h.told(5), 0);
        Checks.due("land again", h.told(8), 10);
        Checks.due("refused again", h.told(10), 0);
        Checks.due("nothing to undo", h.undo(), -1);
        Checks.due("nothing to restore", h.restore(), -1);
        Checks.due("like again", h.like(0), 1000);
    }

    /** What a LAW makes of nose 5, temper 3, cat 2, feints 1, age 40, reign 7, year 11, person 6. */
    private static void law(String text, int want) {
        FarthestHeir h = new FarthestHeir();
        Checks.due("law '" + text + "'", Checks.law(h, text), 1);
        Checks.due("would by '" + text + "'", h.would(5, 3, 2, 1, 40, 7, 11, 6), want);
        Checks.due("fault of law '" + text + "'", h.fault(), -1);
    }

    private static void laws() {
        law("nose", 5);
        law("temper", 3);
        law("cat", 2);
        law("feints", 1);
        law("age", 40);
        law("reign", 7);
        law("year", 11);
        law("person", 6);
        law("  12  ", 12);
        law("0012", 12);
        law("99+1", 99);
        law("cat-nose", 0);
        law("nose+temper*2+cat", 13);
        law("(nose+temper)*2+cat", 18);
        law("20-nose-temper", 12);
        law("20-(nose-temper)", 18);
        law("100/nose/temper", 6);
        law("age%7*2", 10);
        law("age*2%7", 3);
        law("50+(cat-nose)/2", 49);
        law("50+(cat-nose)%2", 49);
        law("50+nose%(0-3)", 52);
        law("50+nose/0", 50);
        law("50+nose%0", 50);
        law("50+nose/(0-2)", 48);
        law("least[nose,temper]", 3);
        law("most[nose,temper]", 5);
        law("least [ most [ 1 , 2 ] , nose ] * 3", 6);
        law("most[0-5,0-7]+10", 5);
        law("least[0-5,0-7]+10", 3);
        law("((((((1))))))", 1);
        law("least[(((((1))))),1]+((((((1))))))", 2);
        law("most[1,most[2,most[3,most[4,most[5,most[6,7]]]]]]", 7);
        law("999*999*999*999/999%100", clamp(999 * 999 * 999 * 999 / 999 % 100));
        law("64*64*64*64*64*2/(0-1)+7", clamp(Integer.MIN_VALUE + 7));
        law("64*64*64*64*64*2-1", 99);
        law("64*64*64*64*64*2", 0);
        law("64*64*64*64*64*4+8", 8);
        law("64*64*64*64*64*2/(0-1)-1", 99);
        law("64*64*64*64*64*2%(0-1)+9", 9);
        law("1+(2*(3+(4*(5+(6-7)))))", 39);
        law("nose+temper" + Checks.times("+1", 69), 77);
        law(Checks.times("1+1*most[0,", 6) + "1+1*3" + Checks.times("]", 6), 10);
    }

    private static int clamp(int x) {
        return Math.max(0, Math.min(99, x));
    }

    private static void lawFault(String text, int want, int fault) {
        FarthestHeir h = Checks.ruled("person 1 2 3;person 4 5 6;");
        Checks.law(h, "42");
        Checks.due("law '" + text + "'", Checks.law(h, text), want);
        Checks.due("fault of law '" + text + "'", h.fault(), fault);
        Checks.due("the law stays behind '" + text + "'", h.far(0, 1), 42);
        Checks.due("TAPE behind '" + text + "'", h.count(1), 0);
    }

    private static void lawFaults() {
        lawFault("", -9, 0);
        lawFault("   ", -9, 3);
        lawFault("1 2", -9, 2);
        lawFault("1 2000", -9, 2);
        lawFault("1+", -9, 2);
        lawFault("1+ ;", -9, 3);
        lawFault("-1", -9, 0);
        lawFault("1000", -8, 0);
        lawFault("1+ 1000 +", -8, 3);
        lawFault("99999999999999", -8, 0);
        lawFault("nose temper", -9, 5);
        lawFault("nosy", -9, 0);
        lawFault("2 * (1", -9, 6);
        lawFault("(1]", -9, 2);
        lawFault("(1))", -9, 3);
        lawFault("()", -9, 1);
        lawFault("least(1,2)", -9, 5);
        lawFault("least[1]", -9, 7);
        lawFault("least[1,2,3]", -9, 9);
        lawFault("least[1,2", -9, 9);
        lawFault("least", -9, 5);
        lawFault("leastest[1,2]", -9, 0);
        lawFault("(((((((1)))))))", -7, 6);
        lawFault("(((((( least [1,2]))))))", -7, 7);
        lawFault("((((((mosts[1,2]))))))", -9, 6);
        lawFault("most[1,most[2,most[3,most[4,most[5,most[6,(7)]]]]]]", -7, 42);
        lawFault(Checks.times("least[", 7) + "1", -7, 36);
        lawFault("nosez", -9, 0);
        lawFault("1;", -9, 1);
        lawFault("1" + (char) 200, -9, 1);
    }

    private static void works() {
        FarthestHeir h = Checks.ruled("person 1 2 3;person 4 5 6;");
        Checks.due("no steps", Checks.work(h, ""), 0);
        Checks.due("it can be undone", h.count(2), 1);
        Checks.due("blanks", Checks.work(h, "  year ;  again 2 [ year ; year;  ] ;  "), 5);
        Checks.due("year", h.told(5), 5);
        Checks.due("again 0", Checks.work(h, "again 0[year;];again 3[];"), 0);
        Checks.due("behind again 0", Checks.work(h, "again 0[year;];drop 0;birth 0 1;again 0[];die 0;"), 2);
        h.undo();
        Checks.due("again in again", Checks.work(h, "again 2[year;again 3[year;];];"), 8);
        Checks.due("six open", Checks.work(h, Checks.times("again 2[", 6) + "year;" + Checks.times("];", 6)), 64);
        Checks.due("year now", h.told(5), 77);
        Checks.due("sixty", Checks.work(h, "again 60[year;];"), 60);
        Checks.due("200 begun", Checks.work(h, "again 60[again 60[year;];];"), 195);
        Checks.due("nothing refused", h.told(10), 0);
        Checks.due("199 and one", Checks.work(h, "again 60[die 7;];again 60[die 7;];again 60[die 7;];"
                + "again 14[die 7;];year;year;year;"), 2);
        Checks.due("refused ones begun", h.told(10), 194);
        Checks.due("empty agains end", Checks.work(h, "again 60[again 60[again 60[];];];year;"), 0);
        Checks.due("empty agains are gone through", Checks.work(h, "again 3[again 60[again 60[];];];"
                + "again 1[again 11[again 60[];];];year;"), 1);
        Checks.due("numbers at the most", Checks.work(h, "feign 7 2 9;drop 7;birth 7 7;die 7;again 60[];"), 0);
        Checks.due("all refused", h.told(10), 4);
    }

    private static void workFault(String text, int want, int fault) {
        FarthestHeir h = Checks.ruled("person 1 2 3;person 4 5 6;");
        Checks.work(h, "year;die 5;");
        Checks.due("work '" + text + "'", Checks.work(h, text), want);
        Checks.due("fault of work '" + text + "'", h.fault(), fault);
        Checks.due("none is done of '" + text + "'", h.told(5), 1);
        Checks.due("nothing more to undo behind '" + text + "'", h.count(2), 1);
        Checks.due("TAPE behind '" + text + "'", h.count(1), 0);
        Checks.due("refused stays behind '" + text + "'", h.told(10), 1);
    }

    private static void workFaults() {
        workFault("year;year", -9, 9);
        workFault("year;yea;", -9, 5);
        workFault("year;;", -9, 5);
        workFault("year;]", -9, 5);
        workFault("year;again 2[year;];];", -9, 20);
        workFault("again 2[year;]", -9, 14);
        workFault("again 2[year;", -9, 13);
        workFault("again 2[year]", -9, 12);
        workFault("again 2 year;", -9, 8);
        workFault("again [year;];", -9, 6);
        workFault("again 61[year;];", -8, 6);
        workFault("feign 8 0 0;", -8, 6);
        workFault("feign 0 3 0;", -8, 8);
        workFault("feign 0 0 10;", -8, 10);
        workFault("feign 0 0;", -9, 9);
        workFault("drop;", -9, 4);
        workFault("drop 8;", -8, 5);
        workFault("birth 8 0;", -8, 6);
        workFault("birth 0 8;", -8, 8);
        workFault("birth 0;", -9, 7);
        workFault("die 8;", -8, 4);
        workFault("die 12345678901;", -8, 4);
        workFault("die x;", -9, 4);
        workFault(Checks.times("again 1[", 6) + " again 99", -7, 49);
        workFault(Checks.times("again 1[", 6) + " agains", -9, 49);
        workFault(Checks.times("again 1[", 5) + "again 1[];again 61[];", -8, 56);
    }

    private static void worksFull() {
        FarthestHeir h = Checks.ruled("person 1 2 3;person 4 5 6;");
        for (int i = 1; i <= 16; i++) {
            Checks.due("work " + i, Checks.work(h, "year;die 6;"), 1);
        }
        Checks.law(h, "(");
        Checks.due("a fault", h.fault(), 1);
        Checks.due("17th", Checks.work(h, "nonsense"), -20);
        Checks.due("no fault", h.fault(), -1);
        Checks.due("TAPE", h.count(1), 0);
        Checks.due("year", h.told(5), 16);
        Checks.due("works", h.count(2), 16);
        Checks.due("refused by the latest", h.told(10), 1);
        Checks.illegal("n ahead of that", () -> h.work(1));
        Checks.due("undone", h.undo(), 15);
        Checks.due("again 16th", Checks.work(h, "year;year;"), 2);
        Checks.due("and 17th", Checks.work(h, "year;"), -20);
        Checks.due("year then", h.told(5), 17);
    }

    private static void book(String text, int want, int fault) {
        FarthestHeir h = Checks.ruled("person 1 2 3;person 4 5 6;");
        Checks.book(h, "0 1;1 2;3 4;");
        Checks.due("book '" + text + "'", Checks.book(h, text), want);
        Checks.due("fault of book '" + text + "'", h.fault(), fault);
        Checks.due("lines behind '" + text + "'", h.told(9), want < 0 ? 3 : want);
        Checks.due("TAPE behind '" + text + "'", h.count(1), 0);
    }

    private static void books() {
        book("", 0, -1);
        book("  ", 0, -1);
        book("0 0;", 1, -1);
        book(" 7  99 ; 6 0 ;", 2, -1);
        book("7 1;6 2;5 3;4 4;3 5;2 6;1 7;0 8;", 8, -1);
        book("8 0;", -8, 0);
        book("0 100;", -8, 2);
        book("0 1;00 1;", -8, 4);
        book("0 1;1 1;1", -8, 8);
        book("0 1;1", -9, 5);
        book("0 1", -9, 3);
        book("01;", -9, 2);
        book("x 1;", -9, 0);
        book("0 1;;", -9, 4);
        book("0 1; 0 100;", -8, 5);
    }
}
