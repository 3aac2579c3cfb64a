import java.util.Random;

/** Random texts of stores, whole ones and broken ones. */
final class StoreMaker {
    private static final String[] UNITS = {"hot", "shy", "guests", "ground", "heat", "course"};
    private static final String[] BITS = {"person", "sack", "thing", "said", "sneeze", "draw", "by", "to", "in", "or",
        "and", "not", "hot", "shy", "guests", "ground", "heat", "course", ";", "(", ")", "<", ">", "=", "+", "-", "*",
        "/", "%", "0", "7", "10", "100", "1000", "12345", "pa", "pb", "sa", "ta", "x", "abcdefghi", " ", "\n", "?", "A",
        "\u00ff", "\u0000"};

    private StoreMaker() {
    }

    static String store(Random r) {
        StringBuilder text = new StringBuilder();
        int people = r.nextInt(8) == 0 ? r.nextInt(3) : 2 + r.nextInt(5);
        int sacks = r.nextInt(10) == 0 ? 0 : 1 + r.nextInt(5);
        int things = people < 2 || r.nextInt(20) == 0 ? 0 : 1 + r.nextInt(10);
        String formula = r.nextInt(4) == 0 ? "" : "said " + formula(r) + ";";
        boolean formulaFirst = r.nextBoolean();
        text.append(formulaFirst ? formula : "");
        for (int i = 0; i < people; i++) {
            text.append("person p").append((char) ('a' + i)).append(r.nextInt(3) > 0 ? " shy " + r.nextInt(10) : "").append(';');
        }
        for (int i = 0; i < sacks; i++) {
            text.append("sack s").append((char) ('a' + i)).append(r.nextInt(5) == 0 ? " ;\n" : ";");
        }
        for (int i = 0; i < things; i++) {
            int by = r.nextInt(people);
            int to = (by + 1 + r.nextInt(people - 1)) % people;
            text.append("thing t").append((char) ('a' + i)).append(" by p").append((char) ('a' + by));
            text.append(" to p").append((char) ('a' + to)).append(" hot ").append(1 + r.nextInt(9));
            text.append(sacks > 0 && r.nextInt(6) > 0 ? " in s" + (char) ('a' + r.nextInt(sacks)) : "").append(';');
        }
        text.append(formulaFirst ? "" : formula);
        text.append(r.nextInt(3) > 0 ? "sneeze " + r.nextInt(101) + ";" : "");
        text.append(r.nextInt(3) > 0 ? "draw " + r.nextInt(1000) + ";" : "");
        return text.toString();
    }

    private static String formula(Random r) {
        return switch (r.nextInt(6)) {
            case 0 -> "hot > shy + ground % " + (1 + r.nextInt(4)) + " - guests / 2";
            case 1 -> "heat > " + r.nextInt(20) + " and not guests = " + (2 + r.nextInt(4));
            case 2 -> "ground * 3 > hot or hot > 7";
            default -> either(r, 2);
        };
    }

    private static String either(Random r, int depth) {
        String s = both(r, depth);
        return r.nextInt(4) == 0 ? s + " or " + both(r, depth) : s;
    }

    private static String both(Random r, int depth) {
        String s = one(r, depth);
        return r.nextInt(4) == 0 ? s + " and " + one(r, depth) : s;
    }

    private static String one(Random r, int depth) {
        if (r.nextInt(6) == 0) {
            return "not " + one(r, depth);
        }
        String s = sum(r, depth);
        return r.nextInt(3) > 0 ? s + "<>=".charAt(r.nextInt(3)) + sum(r, depth) : s;
    }

    private static String sum(Random r, int depth) {
        String s = term(r, depth);
        return r.nextInt(3) == 0 ? s + " " + "+-".charAt(r.nextInt(2)) + term(r, depth) : s;
    }

    private static String term(Random r, int depth) {
        String s = unit(r, depth);
        return r.nextInt(3) == 0 ? s + "*/%".charAt(r.nextInt(3)) + unit(r, depth) : s;
    }

    private static String unit(Random r, int depth) {
        if (depth > 0 && r.nextInt(6) == 0) {
            return "(" + either(r, depth - 1) + ")";
        }
        return r.nextInt(3) == 0 ? "" + r.nextInt(r.nextInt(4) == 0 ? 10000 : 12) : UNITS[r.nextInt(UNITS.length)];
    }

    /** The text with some places spoilt: mostly one fault, at times none. */
    static String broken(Random r, String text) {
        StringBuilder b = new StringBuilder(text);
        int times = 1 + r.nextInt(2);
        for (int i = 0; i < times; i++) {
            int at = r.nextInt(b.length() + 1);
            String bit = BITS[r.nextInt(BITS.length)];
            switch (r.nextInt(4)) {
                case 0 -> b.insert(at, bit);
                case 1 -> b.insert(at, " " + bit + " ");
                case 2 -> b.delete(at, Math.min(b.length(), at + 1 + r.nextInt(6)));
                default -> b.setLength(at);
            }
        }
        return b.length() > 1600 ? b.substring(0, 1600) : b.toString();
    }
}
