/** The edges that 'Terms', ==== 1., names: the four texts, their numbers, words and blanks, and their FAULTS. */
public final class TextEdgesTest {
    private static final String TWO = "person 1 2 3;person 4 5 6;";

    private interface Reader {
        int answer(FarthestHeir h, String text);
    }

    public static void main(String[] args) {
        dukedomBytes();
        clauses();
        persons();
        traits();
        duke();
        land();
        lawBytes();
        lawEnds();
        usualLaw();
        farLimits();
        lawNumbers();
        seen();
        wrapping();
        dividing();
        leastAndMost();
        workBytes();
        stepNumbers();
        agains();
        bookBytes();
        bookLines();
        numbers();
        words();
        blanks();
        firstFault();
        textEndsTooEarly();
        openAtOneTime();
        leastOfOne();
        Checks.end();
    }

    private static void text(Reader reader, String text, int want, int fault) {
        FarthestHeir h = Checks.ruled(TWO);
        Checks.due("'" + text + "'", reader.answer(h, text), want);
        Checks.due("fault of '" + text + "'", h.fault(), fault);
        Checks.due("TAPE behind '" + text + "'", h.count(1), 0);
    }

    private static void dukedom(String text, int want, int fault) {
        text(Checks::dukedom, text, want, fault);
    }

    private static void law(String text, int want, int fault) {
        text(Checks::law, text, want, fault);
    }

    private static void work(String text, int want, int fault) {
        text(Checks::work, text, want, fault);
    }

    private static void book(String text, int want, int fault) {
        text(Checks::book, text, want, fault);
    }

    /** What comes out of a LAW for nose 5, temper 3, cat 0, feints 2, age 40, reign 7, year 11, person 6. */
    private static void value(String law, int want) {
        FarthestHeir h = new FarthestHeir();
        Checks.due("law '" + law + "'", Checks.law(h, law), 1);
        Checks.due("would by '" + law + "'", h.would(5, 3, 0, 2, 40, 7, 11, 6), want);
    }

    private static void dukedomBytes() {
        Checks.of("a text of up to 600 bytes: { CLAUSE \";\" }");
        String late = Checks.times(" ", 587) + "person 1 2 3;";
        dukedom(late, 1, -1);
        FarthestHeir h = new FarthestHeir();
        Checks.feed(h, late);
        Checks.due("without its last byte", h.dukedom(599), -9);
        Checks.due("at the length", h.fault(), 599);
        dukedom("land " + Checks.times("0", 593) + "7;", 0, -1);
        dukedom("person 1 2 3" + Checks.times(" ", 588), -9, 600);
        dukedom(Checks.times(" ", 599) + "x", -9, 599);
        dukedom("", 0, -1);
        dukedom("land 1", -9, 6);
        dukedom(";", -9, 0);
    }

    private static void clauses() {
        Checks.of("{ CLAUSE \";\" }, at most 60; 3 a CLAUSE too many (at its word)");
        String sixty = Checks.times("person 1 2 3;", 8) + Checks.times("duke 7;", 51) + "land 5;";
        dukedom(sixty, 8, -1);
        dukedom(sixty + "  ", 8, -1);
        dukedom(sixty + "duke 0;", -7, 468);
        dukedom(sixty + " land 5;", -7, 469);
        dukedom(sixty + "person 1 2 3;", -7, 468);
        dukedom(sixty + "land", -7, 468);
        String noPersons = Checks.times("land 1;", 60);
        dukedom(noPersons + "person 1 2 3;", -7, 420);
        dukedom(noPersons + "duke 0;", -7, 420);
        FarthestHeir h = new FarthestHeir();
        for (int i = 0; i < 3; i++) {
            Checks.due("sixty again", Checks.dukedom(h, sixty), 8);
            Checks.due("one more", Checks.dukedom(h, noPersons + "land 1;"), -7);
        }
    }

    private static void persons() {
        Checks.of("PERSONS, numbered from 0 on, 8 at most; 3 a PERSON too many (at its word)");
        String eight = Checks.times("person 1 2 3;", 7) + "person 7 8 9;";
        dukedom(eight, 8, -1);
        dukedom(eight + "person 1 2 3;", -7, 104);
        dukedom(eight + "person", -7, 104);
        dukedom(eight + "land 1;person 10", -7, 111);
        FarthestHeir h = Checks.ruled(eight);
        Checks.due("the last one", h.person(7, 0), 7);
        Checks.noSuch("there is no 8", () -> h.person(8, 0));
        Checks.due("eight again", Checks.dukedom(h, eight), 8);
    }

    private static void traits() {
        Checks.of("NOSE X, TEMPER Y, CAT Z, 0 to 9 each");
        dukedom("person 0 0 0;person 9 9 9;", 2, -1);
        dukedom("person 10 0 0;", -8, 7);
        dukedom("person 0 10 0;", -8, 9);
        dukedom("person 0 0 10;", -8, 11);
        dukedom("person -1 0 0;", -9, 7);
        dukedom("person 0 0;", -9, 10);
        dukedom("person 0 0 0 0;", -9, 13);
        FarthestHeir h = Checks.ruled("person 0 9 0;person 9 0 9;");
        for (int t = 0; t < 3; t++) {
            Checks.due("trait " + t + " of 0", h.person(0, t), t == 1 ? 9 : 0);
            Checks.due("trait " + t + " of 1", h.person(1, t), t == 1 ? 0 : 9);
        }
    }

    private static void duke() {
        Checks.of("\"duke\" P (a PERSON told ahead; the first without; the last counts)");
        dukedom("duke 0;", -8, 5);
        dukedom("duke 0;person 1 2 3;", -8, 5);
        dukedom("person 1 2 3;duke 0;", 1, -1);
        dukedom("person 1 2 3;duke 1;", -8, 18);
        dukedom("person 1 2 3;duke 1;person 1 2 3;", -8, 18);
        dukedom(Checks.times("person 1 2 3;", 8) + "duke 7;", 8, -1);
        dukedom(Checks.times("person 1 2 3;", 8) + "duke 8;", -8, 109);
        FarthestHeir h = Checks.ruled(TWO + "duke 0;duke 1;");
        Checks.due("the last counts", h.told(2), 1);
        Checks.dukedom(h, TWO + "duke 1;duke 0;");
        Checks.due("the last counts, though lesser", h.told(2), 0);
        Checks.dukedom(h, TWO + "duke 1;");
        Checks.dukedom(h, TWO);
        Checks.due("the first, whoever was told in the former one", h.told(2), 0);
        Checks.dukedom(h, TWO + "duke 1;duke");
        Checks.dukedom(h, TWO);
        Checks.due("the first, whoever was told in a faulty one", h.told(2), 0);
    }

    private static void land() {
        Checks.of("\"land\" N (0 to 99; 10 without; the last counts)");
        dukedom("land 100;", -8, 5);
        dukedom("land;", -9, 4);
        FarthestHeir h = Checks.ruled("land 99;");
        Checks.due("the most", h.told(8), 99);
        Checks.dukedom(h, "land 0;");
        Checks.due("the least", h.told(8), 0);
        Checks.dukedom(h, "land 77;land 3;");
        Checks.due("the last counts", h.told(8), 3);
        Checks.dukedom(h, "land 55;land");
        Checks.due("a faulty one does not count", h.told(8), 3);
        Checks.dukedom(h, "");
        Checks.due("without", h.told(8), 10);
    }

    private static void lawBytes() {
        Checks.of("A LAW is a text of up to 150 bytes");
        String sum = "11" + Checks.times("+1", 74);
        value(sum, 85);
        value(Checks.times(" ", 149) + "7", 7);
        FarthestHeir h = new FarthestHeir();
        Checks.feed(h, sum);
        Checks.due("without its last byte", h.law(149), -9);
        Checks.due("at the length", h.fault(), 149);
        value("1" + Checks.times("*1", 74) + " ", 1);
    }

    private static void lawEnds() {
        Checks.of("E, at the end nothing more");
        law("nose nose", -9, 5);
        law("1 1", -9, 2);
        law("1)", -9, 1);
        law("1]", -9, 1);
        law("1,2", -9, 1);
        law("1;", -9, 1);
        law("1  x", -9, 3);
        law("1  1000", -9, 3);
        law("(1)(1)", -9, 3);
        law("1  ", 1, -1);
    }

    private static void usualLaw() {
        Checks.of("a LAW; without: nose + temper * 2 + cat");
        FarthestHeir h = new FarthestHeir();
        Checks.due("nose", h.would(9, 0, 0, 3, 99, 9, 9, 8), 9);
        Checks.due("temper", h.would(0, 9, 0, 3, 99, 9, 9, 8), 18);
        Checks.due("cat", h.would(0, 0, 9, 3, 99, 9, 9, 8), 9);
        Checks.due("none", h.would(0, 0, 0, 3, 99, 9, 9, 8), 0);
    }

    private static void farLimits() {
        Checks.of("FAR: what comes out, 0 at least, 99 at most");
        value("0-1", 0);
        value("0", 0);
        value("1", 1);
        value("98", 98);
        value("99", 99);
        value("100", 99);
        value("999*999*999", 99);
        value("0-999*999*999", 0);
        FarthestHeir h = Checks.ruled(TWO);
        Checks.law(h, "100+nose");
        Checks.due("far", h.far(0, 1), 99);
        Checks.due("from the duke", h.person(1, 9), 99);
        Checks.law(h, "nose-100");
        Checks.due("far", h.far(0, 1), 0);
        Checks.due("an heir though", h.told(4), 1);
    }

    private static void lawNumbers() {
        Checks.of("N (0 to 999)");
        value("0", 0);
        value("999-990", 9);
        law("1000", -8, 0);
        law("1+1000", -8, 2);
        law("999+ 1000-", -8, 5);
        value("000999-0990", 9);
        law("0001000", -8, 0);
    }

    private static void seen() {
        Checks.of("what nose, temper, cat, feints, age, reign, year, person are at the least and at the most");
        String[] words = {"nose", "temper", "cat", "feints", "age-900", "reign-801", "year-801", "person"};
        int[] most = {9, 9, 9, 3, 99, 99, 99, 8};
        for (int i = 0; i < words.length; i++) {
            FarthestHeir h = new FarthestHeir();
            Checks.law(h, words[i]);
            Checks.due(words[i] + " at the most", h.would(9, 9, 9, 3, 999, 900, 900, 8), most[i]);
            Checks.due(words[i] + " at the least", h.would(0, 0, 0, 0, 0, 0, 0, 0), 0);
        }
        FarthestHeir h = Checks.ruled("person 0 9 4;person 9 0 4;");
        int[] apart = {9, 9, 0};
        for (int t = 0; t < 3; t++) {
            Checks.law(h, words[t]);
            Checks.due(words[t] + " apart", h.far(0, 1), apart[t]);
            Checks.due(words[t] + " apart the other way", h.far(1, 0), apart[t]);
        }
        Checks.law(h, "feints");
        Checks.work(h, "feign 1 0 3;");
        Checks.due("what the next one feigns does not count", h.far(0, 1), 0);
        Checks.due("what one feigns itself counts", h.far(1, 0), 1);
        Checks.due("so it does in its own count", h.person(0, 8), 0);
        Checks.due("so it does in its own count", h.person(1, 8), 1);
    }

    private static void wrapping() {
        Checks.of("Values are whole numbers of 32 bits that wrap");
        String high = "64*64*64*64*64*2";
        value(high, 0);
        value(high + "-1", 99);
        value(high + "-1+1", 0);
        value(high + "+" + high, 0);
        value(high + "*2+5", 5);
        value("0-" + high, 0);
        value("0-" + high + "-1", 99);
        // 2991008997 wraps to -1303958299, of which 100 leaves -99.
        value("0-999*999*999*3%100", 99);
        value("most[" + high + ",7]", 7);
        value("least[" + high + "-1,7]", 7);
    }

    private static void dividing() {
        Checks.of("/ cuts, % leaves (with the sign of what is divided), by 0 both are 0");
        value("7/2", 3);
        value("50+(0-7)/2", 47);
        value("50+7/(0-2)", 47);
        value("50+(0-7)/(0-2)", 53);
        value("7%2", 1);
        value("50+(0-7)%2", 49);
        value("50+7%(0-2)", 51);
        value("50+(0-7)%(0-2)", 49);
        value("1/2+50", 50);
        value("50+1/0", 50);
        value("50+1%0", 50);
        value("50+0/0", 50);
        value("50+0%0", 50);
        value("50+nose/cat", 50);
        value("50+nose%cat", 50);
        value("50+(0-5)/cat", 50);
        value("50+(0-5)%cat", 50);
        value("64*64*64*64*64*2/(0-1)", 0);
        value("64*64*64*64*64*2/(0-1)-1", 99);
        value("64*64*64*64*64*2%(0-1)+50", 50);
        value("100/3/3*3%7", 5);
    }

    private static void leastAndMost() {
        Checks.of("\"least\" \"[\" E \",\" E \"]\", \"most\" \"[\" E \",\" E \"]\"");
        value("least[4,4]", 4);
        value("most[4,4]", 4);
        value("least[3,4]", 3);
        value("least[4,3]", 3);
        value("most[3,4]", 4);
        value("most[4,3]", 4);
        value("50+least[0-1,0-2]", 48);
        value("50+most[0-1,0-2]", 49);
        law("least[1]", -9, 7);
        law("least[1,]", -9, 8);
        law("least[,1]", -9, 6);
        law("least[1,2,3]", -9, 9);
        law("most[]", -9, 5);
        law("most(1,2)", -9, 4);
        law("most[1,2)", -9, 8);
    }

    private static void workBytes() {
        Checks.of("WORK is a text of up to 150 bytes: { STEP \";\" }");
        String thirty = Checks.times("year;", 30);
        work(thirty, 30, -1);
        FarthestHeir h = Checks.ruled(TWO);
        Checks.feed(h, thirty);
        Checks.due("without its last byte", h.work(149), -9);
        Checks.due("at the length", h.fault(), 149);
        Checks.due("none is done", h.told(5), 0);
        work(Checks.times("again1[];", 16) + "year; ", 1, -1);
        work(Checks.times("again1[year;];", 10) + "drop 0;   ", 10, -1);
        work(Checks.times(" ", 145) + "year;", 1, -1);
        work("", 0, -1);
        work("year", -9, 4);
        work(";", -9, 0);
        work("year;;", -9, 5);
    }

    private static void stepNumbers() {
        Checks.of("\"feign\" P T N (T 0 to 2, N 0 to 9), \"drop\" P, \"birth\" A B, \"die\" P (P, A, B 0 to 7)");
        work("feign 0 0 0;", 1, -1);
        work("feign 1 2 9;", 1, -1);
        work("feign 7 2 9;", 0, -1);
        work("feign 8 2 9;", -8, 6);
        work("feign 7 3 9;", -8, 8);
        work("feign 7 2 10;", -8, 10);
        work("feign 7 2;", -9, 9);
        work("feign 7 2 9 0;", -9, 12);
        work("drop 7;", 0, -1);
        work("drop 8;", -8, 5);
        work("drop;", -9, 4);
        work("birth 0 1;", 1, -1);
        work("birth 7 7;", 0, -1);
        work("birth 8 7;", -8, 6);
        work("birth 7 8;", -8, 8);
        work("birth 7;", -9, 7);
        work("die 1;", 1, -1);
        work("die 7;", 0, -1);
        work("die 8;", -8, 4);
        work("year 0;", -9, 5);
    }

    private static void agains() {
        Checks.of("\"again\" N \"[\" { STEP \";\" } \"]\" (N 0 to 60)");
        work("again 0[year;];", 0, -1);
        work("again 1[year;];", 1, -1);
        work("again 60[year;];", 60, -1);
        work("again 61[year;];", -8, 6);
        work("again 60[];", 0, -1);
        work("again [year;];", -9, 6);
        work("again 1 year;", -9, 8);
        work("again 1[year];", -9, 12);
        work("again 1[year;]", -9, 14);
        work("again 1[year;);", -9, 13);
        work("again 1[;];", -9, 8);
        work("];", -9, 0);
        work("again 1[];];", -9, 10);
    }

    private static void bookBytes() {
        Checks.of("A BOOK is a text of up to 60 bytes: { P F \";\" }");
        String eight = "0 1;1 2;2 3;3 4;4 5;5 6;6 7;" + Checks.times(" ", 28) + "7 8;";
        book(eight, 8, -1);
        FarthestHeir h = Checks.ruled(TWO);
        Checks.feed(h, eight);
        Checks.due("without its last byte", h.book(59), -9);
        Checks.due("at the length", h.fault(), 59);
        book(Checks.times(" ", 60), 0, -1);
        book("", 0, -1);
        book("0 1", -9, 3);
        book("0;", -9, 1);
        book(";", -9, 0);
    }

    private static void bookLines() {
        Checks.of("no P twice: PERSON P (0 to 7) was FAR F (0 to 99)");
        book("0 0;7 99;", 2, -1);
        book("8 0;", -8, 0);
        book("7 100;", -8, 2);
        book("7 1;7 1;", -8, 4);
        book("7 1;6 1;007 2;", -8, 8);
        book("7 1; 7", -8, 5);
        book("0 1 2;", -9, 4);
        FarthestHeir h = Checks.ruled(TWO);
        Checks.due("a P twice is within one BOOK", Checks.book(h, "0 1;"), 1);
        Checks.due("not within two", Checks.book(h, "0 1;"), 1);
    }

    private static void numbers() {
        Checks.of("Numbers: digits, as many as stand there");
        dukedom("person 0000000000009 00 0;", 1, -1);
        dukedom("person 123;", -8, 7);
        dukedom("land 4294967297;", -8, 5);
        dukedom("land 18446744073709551617;", -8, 5);
        law("4294967297", -8, 0);
        law("2147483648", -8, 0);
        work("again 0060[year;];", 60, -1);
        work("die 10;", -8, 4);
        work("die 4294967296;", -8, 4);
        book("0 0099;", 1, -1);
        book("01;", -9, 2);
        book("0 4294967296;", -8, 2);
        dukedom("land +1;", -9, 5);
        dukedom("land -1;", -9, 5);
        dukedom("land x;", -9, 5);
        dukedom("land 1x;", -9, 6);
        dukedom("land 1.0;", -9, 6);
    }

    private static void words() {
        Checks.of("WORDS: small letters, as many as stand there");
        String[] dukedoms = {"perso 1 2 3;", "persons 1 2 3;", "qerson 1 2 3;", "persom 1 2 3;", "personperson 1 2 3;",
            "Person 1 2 3;", "dukes 0;", "luke 0;", "band 1;", "lan 1;", "nose 1;", "year;", "1;", "(;"};
        for (String text : dukedoms) {
            dukedom(text, -9, 0);
        }
        String[] laws = {"nos", "noses", "mose", "Nose", "nosetemper", "tempe", "xemper", "ca", "bat", "feint", "ag", "rein",
            "yearn", "persons", "leas[1,2]", "lest[1,2]", "mos[1,2]", "host[1,2]", "mostmost[1,2]", "land", "+1", "[1]", "%"};
        for (String text : laws) {
            law(text, -9, 0);
        }
        String[] works = {"yea;", "years;", "xear;", "Year;", "yearyear;", "feig 0 0 0;", "reign 0 0 0;", "dro 0;",
            "crop 0;", "birt 0 1;", "girth 0 1;", "di 0;", "lie 0;", "agai 1[];", "bgain 1[];", "person 1 2 3;", "1;", "[];"};
        for (String text : works) {
            work(text, -9, 0);
        }
        dukedom("person1 2 3;duke0;land9;", 1, -1);
        work("feign0 0 0;drop0;birth0 1;die0;again0[year;];", 4, -1);
        law("nose1", -9, 4);
        law("1nose", -9, 1);
        book("a 1;", -9, 0);
    }

    private static void blanks() {
        Checks.of("blanks (32) may stand ahead of all these, and at the end");
        dukedom("  person  1  2  3  ;  duke  0  ;  land  9  ;  ", 1, -1);
        value("  least  [  1  ,  (  2  )  ]  *  3  +  4  -  5  /  6  %  7  ", 7);
        work("  again  2  [  year  ;  feign  0  1  9  ;  ]  ;  die  1  ;  ", 4, -1);
        book("  0  1  ;  1  2  ;  ", 2, -1);
        dukedom("per son 1 2 3;", -9, 0);
        law("no se", -9, 0);
        law("1 0", -9, 2);
        work("ye ar;", -9, 0);
        book("0 1 0;", -9, 4);
        int[] none = {0, 9, 10, 13, 31, 33, 95, 160, 255};
        for (int sign : none) {
            dukedom(" land " + (char) sign + "1;", -9, 6);
            law("1" + (char) sign + "+1", -9, 1);
            work("year;" + (char) sign, -9, 5);
            book("0" + (char) sign + "1;", -9, 1);
        }
        // The signs next to the small letters and to the digits are neither.
        int[] beside = {'a' - 1, 'z' + 1, '0' - 1, '9' + 1};
        for (int sign : beside) {
            dukedom("land" + (char) sign + " 1;", -9, 4);
            dukedom("land 1" + (char) sign + ";", -9, 6);
        }
    }

    private static void firstFault() {
        Checks.of("FAULTS, the first from the left, at its first byte");
        dukedom("person 10 x", -8, 7);
        dukedom("person x 10 0;", -9, 7);
        dukedom("land 100;duke 0;", -8, 5);
        dukedom("duke 0;land 100;", -8, 5);
        dukedom("land   00100;", -8, 7);
        dukedom("   lands 1;", -9, 3);
        law("1000+x", -8, 0);
        law("x+1000", -9, 0);
        law("1+(((((((1000", -7, 8);
        law("1000+(((((((1", -8, 0);
        work("die 8;yea;", -8, 4);
        work("yea;die 8;", -9, 0);
        work("again 61[again 1[again 1[again 1[again 1[again 1[again 1[", -8, 6);
        book("8 1;0 100;", -8, 0);
        book("0 100;0 1;", -8, 2);
        book("0 1;x 1;0 1;", -9, 4);
    }

    private static void textEndsTooEarly() {
        Checks.of("1 what can't stand there (at the length, if the text ends too early)");
        String whole = "person 1 2 3;";
        for (int n = 1; n < whole.length(); n++) {
            boolean cutWord = n < 6;
            dukedom(whole.substring(0, n), -9, cutWord ? 0 : n);
        }
        dukedom("person 1 2 3   ", -9, 15);
        law("", -9, 0);
        law("    ", -9, 4);
        law("1+", -9, 2);
        law("1+  ", -9, 4);
        law("(1", -9, 2);
        law("least", -9, 5);
        law("least[", -9, 6);
        law("least[1", -9, 7);
        law("least[1,", -9, 8);
        law("least[1,2", -9, 9);
        work("feign", -9, 5);
        work("feign 0 ", -9, 8);
        work("feign 0 0 0", -9, 11);
        work("again", -9, 5);
        work("again 1", -9, 7);
        work("again 1[", -9, 8);
        work("again 1[]", -9, 9);
        work("again 1[again 1[];", -9, 18);
        book("0", -9, 1);
        book("0 ", -9, 2);
        book("0 1;1 1 ", -9, 8);
    }

    private static void openAtOneTime() {
        Checks.of("3 a 7th of ( least most again that is open at one time");
        value("((((((7))))))", 7);
        law("(((((((7)))))))", -7, 6);
        value("(least[(most[(least[1,2]),3]),4])", 3);
        law("(least[(most[(least[(1),2]),3]),4])", -7, 20);
        law("(least[(most[(least[1,most[2,2]]),3]),4])", -7, 22);
        value("(1)+(1)+(1)+(1)+(1)+(1)+(1)+(1)", 8);
        value("((((((1)+(1)+(1))))))", 3);
        value("(((((least[1,2]+most[3,4]+(5))))))", 10);
        law("(((((least[1,2]+most[3,(4)])))))", -7, 23);
        value("least[(((((1))))),(((((2)))))]", 1);
        law("least[(((((1))))),((((((2))))))]", -7, 23);
        work(Checks.times("again 1[", 6) + "year;" + Checks.times("];", 6), 1, -1);
        work(Checks.times("again 1[", 7) + "year;" + Checks.times("];", 7), -7, 48);
        work(Checks.times("again 1[", 6) + "];again 1[];again 1[];" + Checks.times("];", 5), 0, -1);
        work(Checks.times("again1[];", 8), 0, -1);
    }

    private static void leastOfOne() {
        Checks.of("FAULTS: of one the least");
        String sixty = Checks.times("land 1;", 60);
        dukedom(sixty + "lands 1;", -9, 420);
        dukedom(sixty + "7", -9, 420);
        dukedom(Checks.times("person 1 2 3;", 8) + "persons 1 2 3;", -9, 104);
        law("((((((leasts[1,2]))))))", -9, 6);
        law("((((((*", -9, 6);
        work(Checks.times("again 1[", 6) + "agains 1[];", -9, 48);
        work(Checks.times("again 1[", 6) + ";", -9, 48);
    }
}
