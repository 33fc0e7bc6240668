/** Promises 5, 8, 9, 10, 39 to 42: what STEPS do, what is told of it, years undone, images, refusals. */
public final class StepsTest {
    private static final String FOUR = "person 1 2 3;person 9 2 3;person 4 8 0;person 5 5 5;duke 1;";

    public static void main(String[] args) {
        feigning();
        births();
        deaths();
        years();
        lastYear();
        undoing();
        images();
        refusedCalls();
        counts();
        Checks.end();
    }

    private static void step(FarthestHeir h, String text, boolean could) {
        Checks.due("'" + text + "'", Checks.work(h, text), could ? 1 : 0);
        Checks.due("refused by '" + text + "'", h.told(10), could ? 0 : 1);
    }

    private static void feigning() {
        FarthestHeir h = Checks.ruled(FOUR);
        step(h, "feign 0 1 8;", true);
        Checks.due("shows", h.person(0, 1), 8);
        Checks.due("is", h.person(0, 4), 2);
        Checks.due("feigns", h.person(0, 8), 1);
        Checks.due("mask", h.masks(0), 2);
        Checks.due("who", h.told(6), 1);
        step(h, "feign 0 1 8;", false);
        step(h, "feign 0 0 1;", false);
        step(h, "feign 4 0 1;", false);
        step(h, "feign 0 2 0;", true);
        Checks.due("both", h.masks(0), 6);
        Checks.due("both feigned", h.person(0, 8), 2);
        step(h, "feign 0 1 2;", true);
        Checks.due("true again", h.masks(0), 4);
        step(h, "drop 0;", true);
        Checks.due("none", h.masks(0), 0);
        Checks.due("nobody", h.told(6), 0);
        step(h, "drop 0;", false);
        step(h, "drop 4;", false);
        step(h, "feign 3 0 0;", true);
        step(h, "die 3;", true);
        step(h, "feign 3 0 1;", false);
        Checks.due("a dead one feigns", h.told(6), 8);
        step(h, "drop 3;", true);
        Checks.due("and drops", h.told(6), 0);
    }

    private static void births() {
        FarthestHeir h = Checks.ruled(FOUR);
        Checks.work(h, "feign 0 0 9;feign 2 2 9;");
        step(h, "birth 0 2;", true);
        int[] child = {2, 5, 1};
        for (int t = 0; t < 3; t++) {
            Checks.due("child shows " + t, h.person(4, t), child[t]);
            Checks.due("child is " + t, h.person(4, 3 + t), child[t]);
        }
        Checks.due("age", h.person(4, 6), 0);
        Checks.due("lives", h.told(1), 31);
        step(h, "birth 0 0;", false);
        step(h, "birth 5 0;", false);
        step(h, "birth 0 5;", false);
        step(h, "birth 4 3;", true);
        Checks.due("half, cut", h.person(5, 0), 3);
        step(h, "die 0;", true);
        step(h, "birth 0 1;", false);
        step(h, "birth 1 0;", false);
        Checks.due("two more", Checks.work(h, "birth 1 2;birth 2 1;"), 2);
        Checks.due("eight", h.told(0), 8);
        step(h, "birth 1 2;", false);
        Checks.due("live", h.told(1), 254);
    }

    private static void deaths() {
        FarthestHeir h = Checks.ruled(FOUR);
        Checks.work(h, "year;year;");
        Checks.due("heir", h.told(4), 2);
        step(h, "die 4;", false);
        step(h, "die 0;", true);
        step(h, "die 0;", false);
        Checks.due("duke stays", h.told(2), 1);
        Checks.due("rules on", h.told(3), 2);
        Checks.due("one duke", h.told(7), 1);
        step(h, "die 1;", true);
        Checks.due("heir rules", h.told(2), 2);
        Checks.due("for 0 years", h.told(3), 0);
        Checks.due("two dukes", h.told(7), 2);
        Checks.due("lives not", h.person(1, 7), 0);
        Checks.due("lives", h.person(2, 7), 1);
        Checks.work(h, "year;die 2;die 3;year;");
        Checks.due("none", h.told(2), -1);
        Checks.due("no heir", h.told(4), -1);
        Checks.due("no reign", h.told(3), 0);
        Checks.due("three dukes", h.told(7), 3);
        Checks.due("nobody", h.told(1), 0);
        Checks.due("year goes on", h.told(5), 4);
        Checks.due("far from none", h.person(0, 9), 0);
        // The heir is found by how long the dead duke ruled: person * reign tells 1 from 2.
        FarthestHeir by = Checks.ruled("person 0 0 0;person 5 0 0;person 0 0 0;");
        Checks.law(by, "nose + person * reign * 4");
        Checks.due("first heir", by.told(4), 1);
        Checks.work(by, "again 3[year;];die 0;");
        Checks.due("by the years ruled", by.told(2), 2);
        // A duke is taken as he shows himself.
        FarthestHeir mask = Checks.ruled("person 0 0 0;person 9 0 0;person 1 0 0;");
        Checks.work(mask, "feign 0 0 9;die 0;");
        Checks.due("as he did", mask.told(2), 2);
    }

    private static void years() {
        FarthestHeir h = Checks.ruled(FOUR);
        Checks.work(h, "birth 0 1;year;die 3;year;");
        int[] ages = {22, 22, 22, 21, 2};
        for (int p = 0; p < ages.length; p++) {
            Checks.due("age of " + p, h.person(p, 6), ages[p]);
        }
        Checks.due("year", h.told(5), 2);
        Checks.due("reign", h.told(3), 2);
        Checks.noSuch("no fifth", () -> h.person(5, 6));
        Checks.illegal("no what", () -> h.person(0, 10));
        Checks.illegal("no what", () -> h.person(0, -1));
        Checks.noSuch("ahead of others", () -> h.person(-1, 10));
        Checks.illegal("no such told", () -> h.told(-1));
        Checks.illegal("no such told", () -> h.told(11));
        Checks.due("far from the duke", h.person(2, 9), 20);
        Checks.due("a dead one from the duke", h.person(3, 9), 12);
        Checks.due("the duke from himself", h.person(1, 9), 0);
        Checks.law(h, "7");
        Checks.due("the duke from himself by 7", h.person(1, 9), 0);
        Checks.due("another one by 7", h.person(0, 9), 7);
        Checks.due("years without people", Checks.work(new FarthestHeir(), "year;birth 0 1;die 0;"), 1);
    }

    private static void lastYear() {
        FarthestHeir h = Checks.ruled(FOUR);
        Checks.passed(h, 900);
        Checks.due("year 900", h.told(5), 900);
        Checks.due("reign 900", h.told(3), 900);
        Checks.due("age 920", h.person(0, 6), 920);
        step(h, "year;", false);
        Checks.due("still 900", h.told(5), 900);
        Checks.due("still 920", h.person(0, 6), 920);
        Checks.due("a year refused between", Checks.work(h, "feign 0 0 7;year;drop 0;again 3[year;];"), 2);
        Checks.due("four are refused", h.told(10), 4);
        for (int i = 0; i < 3; i++) {
            h.undo();
        }
        Checks.due("year 720", h.told(5), 720);
        Checks.passed(h, 179);
        Checks.due("year 899", h.told(5), 899);
        Checks.due("one year more, of two", Checks.work(h, "again 2[year;];"), 1);
        Checks.due("the last one", h.told(5), 900);
    }

    private static void undoing() {
        FarthestHeir h = Checks.ruled(FOUR);
        Checks.law(h, "11");
        Checks.work(h, "year;feign 0 0 7;drop 1;");
        Checks.work(h, "die 1;birth 0 2;drop 1;");
        Checks.book(h, "1 1;");
        Checks.due("left", h.undo(), 1);
        Checks.due("lives", h.told(1), 15);
        Checks.due("duke", h.told(2), 1);
        Checks.due("reign", h.told(3), 1);
        Checks.due("dukes", h.told(7), 1);
        Checks.due("feigner", h.told(6), 1);
        Checks.due("refused", h.told(10), 0);
        Checks.due("law", h.far(0, 1), 11);
        Checks.due("lines", h.told(9), 1);
        Checks.due("none left", h.undo(), 0);
        Checks.due("year", h.told(5), 0);
        Checks.due("age", h.person(0, 6), 20);
        Checks.due("feigner", h.told(6), 0);
        Checks.due("there is none", h.undo(), -1);
        Checks.work(h, "year;");
        Checks.due("new work", h.undo(), 0);
    }

    private static void images() {
        FarthestHeir h = Checks.ruled(FOUR);
        Checks.work(h, "year;");
        Checks.due("first", h.image(), 1);
        Checks.work(h, "die 1;die 1;");
        Checks.due("second", h.image(), 2);
        Checks.due("third", h.image(), 3);
        Checks.due("no fourth", h.image(), -1);
        Checks.law(h, "3");
        Checks.book(h, "0 1;1 2;");
        Checks.work(h, "die 2;die 2;");
        Checks.due("an undone one", h.undo(), 2);
        h.undo();
        h.undo();
        Checks.due("year 0", h.told(5), 0);
        Checks.work(h, "die 0;die 0;");
        Checks.due("third restored", h.restore(), 2);
        Checks.due("lives", h.told(1), 13);
        Checks.due("duke", h.told(2), 2);
        Checks.due("refused", h.told(10), 0);
        Checks.due("works", h.count(2), 2);
        Checks.due("law stays", h.far(0, 1), 3);
        Checks.due("lines stay", h.told(9), 2);
        Checks.due("undone behind it", h.undo(), 1);
        Checks.due("duke then", h.told(2), 1);
        Checks.due("second restored", h.restore(), 1);
        Checks.due("duke again", h.told(2), 2);
        Checks.due("first restored", h.restore(), 0);
        Checks.due("all live", h.told(1), 15);
        Checks.due("year", h.told(5), 1);
        Checks.due("works of the first", h.count(2), 1);
        Checks.work(h, "die 7;");
        Checks.due("none", h.restore(), -1);
        Checks.due("nothing done", h.told(10), 1);
        Checks.due("image again", h.image(), 1);
    }

    private static void refusedCalls() {
        FarthestHeir h = Checks.ruled(FOUR);
        Checks.due("none at first", h.status(0) + h.status(1), 0);
        h.image();
        Checks.noSuch("far", () -> h.far(0, 4));
        Checks.noSuch("far", () -> h.far(4, 0));
        Checks.noSuch("land", () -> h.land(4, -1, -1));
        Checks.illegal("land", () -> h.land(0, -1, 0));
        Checks.illegal("span", () -> h.span(0, 1, 1, 0, 0, 4));
        h.restore();
        Checks.due("no such", h.status(0), 3);
        Checks.due("illegal", h.status(1), 2);
        Checks.due("another", h.status(2), -1);
        Checks.due("another", h.status(-1), -1);
        Checks.dukedom(h, "");
        Checks.due("kept", h.status(0), 3);
        Checks.due("kept", h.status(1), 2);
    }

    private static void counts() {
        FarthestHeir h = Checks.ruled(FOUR);
        h.image();
        Checks.work(h, "year;");
        Checks.work(h, "year;");
        h.feed(0, 0, 0, 0, 0);
        Checks.due("images", h.count(0), 1);
        Checks.due("bytes", h.count(1), 20);
        Checks.due("works", h.count(2), 2);
        Checks.due("another", h.count(3), -1);
        Checks.due("another", h.count(-1), -1);
    }
}
