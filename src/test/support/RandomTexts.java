import java.util.Random;

/** Texts of all four kinds by chance: most are right, some have a FAULT. */
final class RandomTexts {
    private static final String[] SEEN = {"nose", "temper", "cat", "feints", "age", "reign", "year", "person"};
    private static final String[] SIGNS = {" ", "  ", ";", "[", "]", "(", ")", ",", "+", "-", "*", "/", "%", "0", "9", "10",
        "61", "100", "1000", "year", "least", "person", "a", "A", "\0", "\t", "\u00ff"};

    private final Random random;

    RandomTexts(Random random) {
        this.random = random;
    }

    private int by(int n) {
        return random.nextInt(n);
    }

    private String number(int most) {
        int n = by(60) == 0 ? most + 1 + by(3) : by(most + 1);
        return (by(30) == 0 ? "0" : "") + n;
    }

    /** The first ones more often, as they are PERSONS more often. */
    private String who() {
        return number(by(2) == 0 ? 7 : 2);
    }

    private String blank() {
        return by(12) == 0 ? " " : "";
    }

    String dukedom() {
        StringBuilder text = new StringBuilder();
        int persons = by(12) == 0 ? by(10) : 1 + by(8);
        int traits = by(3) == 0 ? 2 : 10;
        for (int p = 0; p < persons; p++) {
            text.append(blank()).append("person");
            for (int t = 0; t < 3; t++) {
                text.append(' ').append(number(traits - 1));
            }
            text.append(blank()).append(';');
            if (by(6) == 0) {
                text.append("duke ").append(by(p + (by(8) == 0 ? 2 : 1))).append(";");
            }
            if (by(8) == 0) {
                text.append("land").append(number(99)).append(";");
            }
        }
        for (int more = by(40) == 0 ? 50 + by(12) : 0; more > 0; more--) {
            text.append("land 5;");
        }
        return spoilt(text);
    }

    String law() {
        StringBuilder text = new StringBuilder();
        if (by(6) == 0) {
            // Most laws are too great or too small for a single YEAR to matter.
            text.append("year%").append(2 + by(6)).append("*person+year-").append(890 + by(20)).append('+');
        }
        sum(text, 2 + by(6));
        return spoilt(text);
    }

    private void sum(StringBuilder text, int depth) {
        product(text, depth);
        while (by(5) < 2 && text.length() < 130) {
            text.append(blank()).append("+-".charAt(by(2))).append(blank());
            product(text, depth);
        }
    }

    private void product(StringBuilder text, int depth) {
        unit(text, depth);
        while (by(5) < 2 && text.length() < 130) {
            text.append("*/%".charAt(by(3)));
            unit(text, depth);
        }
    }

    private void unit(StringBuilder text, int depth) {
        text.append(blank());
        int kind = depth == 0 || text.length() > 110 ? by(7) : by(11);
        if (kind < 2) {
            text.append(number(by(2) == 0 ? 12 : 999));
        } else if (kind < 7) {
            text.append(SEEN[by(SEEN.length)]);
        } else if (kind < 9) {
            text.append('(');
            sum(text, depth - 1);
            text.append(')');
        } else {
            text.append(kind == 9 ? "least[" : "most[");
            sum(text, depth - 1);
            text.append(',');
            sum(text, depth - 1);
            text.append(']');
        }
    }

    String work() {
        StringBuilder text = new StringBuilder();
        steps(text, by(3) == 0 ? 7 : 2);
        return spoilt(text);
    }

    private void steps(StringBuilder text, int depth) {
        for (int many = by(6); many > 0 && text.length() < 130; many--) {
            text.append(blank());
            int kind = by(depth == 0 ? 10 : 13);
            if (kind < 3) {
                text.append("feign ").append(who()).append(' ').append(number(2)).append(' ').append(number(9));
            } else if (kind < 8) {
                text.append(kind == 3 ? "die " : kind < 7 ? "drop " : "birth 0 ").append(who());
            } else if (kind < 10) {
                text.append(kind == 8 ? "year" : "birth 1 2");
            } else {
                text.append("again ").append(by(3) == 0 ? number(60) : number(3)).append('[');
                steps(text, depth - 1);
                text.append(by(4) == 0 ? "year;" : "").append(']');
            }
            text.append(blank()).append(';');
        }
    }

    /** Most lines are right by the DUKE there is, so that some kinds are left. */
    String book(FarthestHeir h) {
        StringBuilder text = new StringBuilder();
        for (int p = 0; p < 8; p++) {
            if (by(4) == 0) {
                boolean asNow = by(4) > 0 && p < h.told(0) && h.told(2) >= 0;
                text.append(blank()).append(by(40) == 0 ? by(8) : p).append(' ');
                text.append(asNow ? "" + h.far(p, h.told(2)) : number(99)).append(blank()).append(';');
            }
        }
        return spoilt(text);
    }

    private String spoilt(StringBuilder text) {
        text.append(blank());
        for (int i = by(8) == 0 ? 1 + by(2) : 0; i > 0; i--) {
            int at = by(text.length() + 1);
            int kind = by(3);
            if (kind > 0 && at < text.length()) {
                text.deleteCharAt(at);
            }
            if (kind < 2) {
                text.insert(at, SIGNS[by(SIGNS.length)]);
            }
        }
        return text.toString();
    }
}
