import java.util.ArrayList;
import java.util.HashMap;
import java.util.List;
import java.util.Map;
import java.util.function.IntBinaryOperator;
import java.util.regex.Matcher;
import java.util.regex.Pattern;

/** The texts of the document, cut into words, numbers and signs first, and read by Model. */
final class ModelText {
    private static final Pattern TOKEN = Pattern.compile("[0-9]+|[a-z]+|[^ ]", Pattern.DOTALL);
    private static final List<String> SEEN =
            List.of("nose", "temper", "cat", "feints", "age", "reign", "year", "person");

    /** A STEP that was begun; an again has none to be done. */
    static final class Begun {
        final Model.Step step;

        Begun(Model.Step step) {
            this.step = step;
        }
    }

    /** A STEP that was read: one to be done, or what is done again. */
    private static final class Read {
        Model.Step step;
        int times;
        List<Read> inside;
    }

    private final List<String> tokens = new ArrayList<>();
    private final List<Integer> places = new ArrayList<>();
    private int at = 0;

    ModelText(String text) {
        Matcher m = TOKEN.matcher(text);
        while (m.find()) {
            tokens.add(m.group());
            places.add(m.start());
        }
        tokens.add("");
        places.add(text.length());
    }

    private Model.Fault fault(int kind) {
        return new Model.Fault(kind, places.get(at));
    }

    private boolean atEnd() {
        return tokens.get(at).isEmpty();
    }

    private boolean takes(String token) {
        boolean so = tokens.get(at).equals(token);
        at += so ? 1 : 0;
        return so;
    }

    private void needs(String token) {
        if (!takes(token)) {
            throw fault(1);
        }
    }

    private int number(int least, int most) {
        if (!tokens.get(at).matches("[0-9]+")) {
            throw fault(1);
        }
        String digits = tokens.get(at).replaceFirst("^0+(?=.)", "");
        if (digits.length() > 3 || Integer.parseInt(digits) < least || Integer.parseInt(digits) > most) {
            throw fault(2);
        }
        at++;
        return Integer.parseInt(digits);
    }

    // ---- a DUKEDOM

    /** Tells all into a state; answers the land. */
    int dukedom(Model.State told) {
        int land = 10;
        int duke = 0;
        for (int clauses = 1; !atEnd(); clauses++) {
            String word = tokens.get(at);
            if (!List.of("person", "duke", "land").contains(word)) {
                throw fault(1);
            }
            if (clauses > 60 || word.equals("person") && told.persons.size() == 8) {
                throw fault(3);
            }
            at++;
            if (word.equals("person")) {
                told.persons.add(new Model.Someone(20, number(0, 9), number(0, 9), number(0, 9)));
            } else if (word.equals("duke")) {
                duke = number(0, told.persons.size() - 1);
            } else {
                land = number(0, 99);
            }
            needs(";");
        }
        if (!told.persons.isEmpty()) {
            told.duke = duke;
            told.dukes = 1;
        }
        return land;
    }

    // ---- a LAW

    Model.Far law() {
        Model.Far all = sum(0);
        if (!atEnd()) {
            throw fault(1);
        }
        return all;
    }

    private static Model.Far both(Model.Far a, Model.Far b, IntBinaryOperator op) {
        return seen -> op.applyAsInt(a.of(seen), b.of(seen));
    }

    private Model.Far sum(int open) {
        Model.Far left = product(open);
        while (true) {
            if (takes("+")) {
                left = both(left, product(open), (a, b) -> a + b);
            } else if (takes("-")) {
                left = both(left, product(open), (a, b) -> a - b);
            } else {
                return left;
            }
        }
    }

    private Model.Far product(int open) {
        Model.Far left = unit(open);
        while (true) {
            if (takes("*")) {
                left = both(left, unit(open), (a, b) -> a * b);
            } else if (takes("/")) {
                left = both(left, unit(open), (a, b) -> b == 0 ? 0 : (int) ((long) a / b));
            } else if (takes("%")) {
                left = both(left, unit(open), (a, b) -> b == 0 ? 0 : (int) ((long) a % b));
            } else {
                return left;
            }
        }
    }

    private Model.Far unit(int open) {
        String token = tokens.get(at);
        if (token.matches("[0-9]+")) {
            int n = number(0, 999);
            return seen -> n;
        }
        if (SEEN.contains(token)) {
            at++;
            int which = SEEN.indexOf(token);
            return seen -> seen[which];
        }
        if (!List.of("(", "least", "most").contains(token)) {
            throw fault(1);
        }
        if (open == 6) {
            throw fault(3);
        }
        at++;
        return token.equals("(") ? bracket(open + 1) : chosen(open + 1, token.equals("least"));
    }

    private Model.Far bracket(int open) {
        Model.Far inside = sum(open);
        needs(")");
        return inside;
    }

    private Model.Far chosen(int open, boolean least) {
        needs("[");
        Model.Far a = sum(open);
        needs(",");
        Model.Far b = sum(open);
        needs("]");
        return both(a, b, least ? Math::min : Math::max);
    }

    // ---- WORK

    /** The STEPS that are begun, 200 at the most. */
    List<Begun> work() {
        List<Read> all = steps(0);
        List<Begun> begun = new ArrayList<>();
        begin(all, begun);
        return begun;
    }

    private List<Read> steps(int open) {
        List<Read> all = new ArrayList<>();
        while (open == 0 ? !atEnd() : !tokens.get(at).equals("]")) {
            all.add(step(open));
            needs(";");
        }
        return all;
    }

    private Read step(int open) {
        String word = tokens.get(at);
        if (!List.of("feign", "drop", "birth", "die", "year", "again").contains(word)) {
            throw fault(1);
        }
        if (word.equals("again") && open == 6) {
            throw fault(3);
        }
        at++;
        Read read = new Read();
        if (word.equals("again")) {
            read.times = number(0, 60);
            needs("[");
            read.inside = steps(open + 1);
            needs("]");
        } else {
            read.step = plain(word);
        }
        return read;
    }

    private Model.Step plain(String word) {
        if (word.equals("year")) {
            return s -> s.year < 900 && s.passYear();
        }
        int p = number(0, 7);
        if (word.equals("drop")) {
            return s -> s.drop(p);
        }
        if (word.equals("die")) {
            return s -> s.die(p);
        }
        if (word.equals("birth")) {
            int b = number(0, 7);
            return s -> s.birth(p, b);
        }
        int t = number(0, 2);
        int n = number(0, 9);
        return s -> s.feign(p, t, n);
    }

    private static void begin(List<Read> all, List<Begun> begun) {
        for (Read read : all) {
            if (begun.size() == 200) {
                return;
            }
            begun.add(new Begun(read.step));
            for (int i = 0; i < read.times; i++) {
                begin(read.inside, begun);
            }
        }
    }

    // ---- a BOOK

    Map<Integer, Integer> book() {
        Map<Integer, Integer> lines = new HashMap<>();
        while (!atEnd()) {
            int from = at;
            int p = number(0, 7);
            if (lines.containsKey(p)) {
                at = from;
                throw fault(2);
            }
            lines.put(p, number(0, 99));
            needs(";");
        }
        return lines;
    }
}
