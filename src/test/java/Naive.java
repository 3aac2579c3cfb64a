import java.util.ArrayDeque;
import java.util.ArrayList;
import java.util.Arrays;
import java.util.HashSet;
import java.util.List;
import java.util.Set;

/**
 * The document again, written as plainly as it goes and without a care for speed: every question is answered
 * by trying all there is, with every grinding done one behind the other. ModelTest holds the class against it.
 */
final class Naive {
    private static final Set<String> WORDS = new HashSet<>(Arrays.asList("person", "shy", "sack", "thing", "by", "to",
            "hot", "in", "said", "sneeze", "draw", "or", "and", "not", "guests", "ground", "heat", "course"));

    interface Formula {
        int of(int hot, int shy, int guests, int ground, int heat, int course);
    }

    static final class Fault extends Exception {
        private static final long serialVersionUID = 1L;
        final int code;
        final int place;

        Fault(int code, int place) {
            this.code = code;
            this.place = place;
        }
    }

    record Person(String name, int shy) {
    }

    record Thing(String name, int by, int to, int hot, int in) {
    }

    record Token(String text, int place) {
        boolean isNumber() {
            return !text.isEmpty() && Character.isDigit(text.charAt(0));
        }

        boolean isName() {
            return text.matches("[a-z]+") && !WORDS.contains(text);
        }
    }

    record Heard(int sack, int many, boolean is, int told, int[] untold) {
    }

    static final class World implements Cloneable {
        Set<Integer> sits = new HashSet<>();
        Set<Integer> said = new HashSet<>();
        int[] where = new int[0];
        int[] ground = new int[0];
        int course;
        int seed;

        World copy() {
            World w = new World();
            w.sits = new HashSet<>(sits);
            w.said = new HashSet<>(said);
            w.where = where.clone();
            w.ground = ground.clone();
            w.course = course;
            w.seed = seed;
            return w;
        }
    }

    private String tape = "";
    private List<Person> people = new ArrayList<>();
    private List<String> sacks = new ArrayList<>();
    private List<Thing> things = new ArrayList<>();
    private Formula formula = (hot, shy, guests, ground, heat, course) -> hot > shy ? 1 : 0;
    private int sneeze;
    private int draw;
    private int units;
    private int fault;
    private int faultPlace = -1;
    private World world = new World();
    private final ArrayDeque<World> done = new ArrayDeque<>();
    private final ArrayDeque<World> undone = new ArrayDeque<>();
    private final World[] boxes = new World[3];
    private List<Integer> lying = new ArrayList<>();
    private List<Heard> heards = new ArrayList<>();
    private int time;

    // ---- the text

    int feed(int a, int b, int c, int d, int e) {
        if (tape.length() > 1580) {
            return -1;
        }
        for (int n : new int[] {a, b, c, d, e}) {
            for (int i = 3; i >= 0; i--) {
                tape += (char) (n >>> (8 * i) & 0xff);
            }
        }
        return tape.length();
    }

    int end(int n) {
        if (n < 0 || n > tape.length()) {
            return -1;
        }
        tape = tape.substring(0, n);
        return n;
    }

    /** A parse of one text; what it finds is only taken over if there is no fault. */
    private final class Parse {
        private final String text;
        private int at;
        private Token token;
        final List<Person> people = new ArrayList<>();
        final List<String> sacks = new ArrayList<>();
        final List<Thing> things = new ArrayList<>();
        Formula formula;
        int sneeze = -1;
        int draw = -1;
        int units;

        Parse(String text) throws Fault {
            this.text = text;
            advance();
            while (!token.text().isEmpty()) {
                oneLine();
            }
        }

        private void advance() throws Fault {
            // The fault of a token that is none is told only when it is come to, which is now.
            while (at < text.length() && (text.charAt(at) == 32 || text.charAt(at) == 10)) {
                at++;
            }
            int from = at;
            if (at == text.length()) {
                token = new Token("", at);
                return;
            }
            String rest = text.substring(at);
            String word = rest.replaceFirst("(?s)^([a-z]*).*$", "$1");
            String number = rest.replaceFirst("(?s)^([0-9]*).*$", "$1");
            if (!word.isEmpty()) {
                at += word.length();
                if (word.length() > 8) {
                    throw new Fault(1, from);
                }
                token = new Token(word, from);
            } else if (!number.isEmpty()) {
                at += number.length();
                if (number.length() > 4 || rest.substring(number.length()).matches("(?s)^[a-z].*$")) {
                    throw new Fault(1, from);
                }
                token = new Token(number, from);
            } else if (";()<>=+-*/%".indexOf(rest.charAt(0)) >= 0) {
                at++;
                token = new Token(rest.substring(0, 1), from);
            } else {
                throw new Fault(1, from);
            }
        }

        private boolean is(String s) {
            return token.text().equals(s);
        }

        private void must(boolean right, int code) throws Fault {
            if (!right) {
                throw new Fault(code, token.place());
            }
        }

        private void want(String s) throws Fault {
            must(is(s), 2);
            advance();
        }

        private int number(int least, int most) throws Fault {
            must(token.isNumber(), 2);
            int n = Integer.parseInt(token.text());
            must(n >= least && n <= most, 4);
            advance();
            return n;
        }

        private String newName(List<String> old) throws Fault {
            must(token.isName(), 2);
            must(!old.contains(token.text()), 3);
            String name = token.text();
            advance();
            return name;
        }

        private int known(List<String> names, int but) throws Fault {
            must(token.isName(), 2);
            int i = names.indexOf(token.text());
            must(i >= 0, 5);
            must(i != but, 3);
            advance();
            return i;
        }

        private void oneLine() throws Fault {
            List<String> peopleNames = people.stream().map(Person::name).toList();
            if (is("person")) {
                must(people.size() < 6, 2);
                advance();
                String name = newName(peopleNames);
                int shy = 0;
                if (is("shy")) {
                    advance();
                    shy = number(0, 9);
                }
                people.add(new Person(name, shy));
            } else if (is("sack")) {
                must(sacks.size() < 5, 2);
                advance();
                sacks.add(newName(sacks));
            } else if (is("thing")) {
                must(things.size() < 10, 2);
                advance();
                String name = newName(things.stream().map(Thing::name).toList());
                want("by");
                int by = known(peopleNames, -1);
                want("to");
                int to = known(peopleNames, by);
                want("hot");
                int hot = number(1, 9);
                int in = -1;
                if (is("in")) {
                    advance();
                    in = known(sacks, -1);
                }
                things.add(new Thing(name, by, to, hot, in));
            } else if (is("said")) {
                must(formula == null, 2);
                advance();
                formula = e(0);
            } else if (is("sneeze")) {
                must(sneeze < 0, 2);
                advance();
                sneeze = number(0, 100);
            } else if (is("draw")) {
                must(draw < 0, 2);
                advance();
                draw = number(0, 999);
            } else {
                must(false, 2);
            }
            want(";");
        }

        private Formula e(int within) throws Fault {
            Formula f = both(within);
            while (is("or")) {
                advance();
                Formula l = f;
                Formula r = both(within);
                f = (a, b, c, d, g, h) -> l.of(a, b, c, d, g, h) != 0 | r.of(a, b, c, d, g, h) != 0 ? 1 : 0;
            }
            return f;
        }

        private Formula both(int within) throws Fault {
            Formula f = one(within);
            while (is("and")) {
                advance();
                Formula l = f;
                Formula r = one(within);
                f = (a, b, c, d, g, h) -> l.of(a, b, c, d, g, h) != 0 & r.of(a, b, c, d, g, h) != 0 ? 1 : 0;
            }
            return f;
        }

        private Formula one(int within) throws Fault {
            if (is("not")) {
                must(within <= 6, 2);
                advance();
                Formula f = one(within + 1);
                return (a, b, c, d, g, h) -> f.of(a, b, c, d, g, h) == 0 ? 1 : 0;
            }
            Formula l = sum(within);
            String op = token.text();
            if (!is("<") && !is(">") && !is("=")) {
                return l;
            }
            advance();
            Formula r = sum(within);
            return (a, b, c, d, g, h) -> {
                int x = Integer.compare(l.of(a, b, c, d, g, h), r.of(a, b, c, d, g, h));
                return (op.equals("<") ? x < 0 : op.equals(">") ? x > 0 : x == 0) ? 1 : 0;
            };
        }

        private Formula sum(int within) throws Fault {
            Formula f = term(within);
            while (is("+") || is("-")) {
                int sign = is("+") ? 1 : -1;
                advance();
                Formula l = f;
                Formula r = term(within);
                f = (a, b, c, d, g, h) -> (int) (l.of(a, b, c, d, g, h) + (long) sign * r.of(a, b, c, d, g, h));
            }
            return f;
        }

        private Formula term(int within) throws Fault {
            Formula f = unit(within);
            while (is("*") || is("/") || is("%")) {
                String op = token.text();
                advance();
                Formula l = f;
                Formula r = unit(within);
                f = (a, b, c, d, g, h) -> {
                    long x = l.of(a, b, c, d, g, h);
                    long y = r.of(a, b, c, d, g, h);
                    return (int) (op.equals("*") ? x * y : y == 0 ? 0 : op.equals("/") ? x / y : x % y);
                };
            }
            return f;
        }

        private Formula unit(int within) throws Fault {
            must(units < 30, 2);
            units++;
            Token t = token;
            if (t.isNumber()) {
                advance();
                int n = Integer.parseInt(t.text());
                return (a, b, c, d, g, h) -> n;
            }
            int which = List.of("hot", "shy", "guests", "ground", "heat", "course").indexOf(t.text());
            if (which >= 0) {
                advance();
                return (a, b, c, d, g, h) -> new int[] {a, b, c, d, g, h}[which];
            }
            must(is("(") && within <= 6, 2);
            advance();
            Formula f = e(within + 1);
            want(")");
            return f;
        }
    }

    int store() {
        Parse p;
        try {
            p = new Parse(tape);
        } catch (Fault f) {
            fault = f.code;
            faultPlace = f.place;
            return -1;
        }
        fault = 0;
        faultPlace = -1;
        tape = "";
        people = p.people;
        sacks = p.sacks;
        things = p.things;
        formula = p.formula != null ? p.formula : (hot, shy, guests, ground, heat, course) -> hot > shy ? 1 : 0;
        sneeze = Math.max(p.sneeze, 0);
        draw = Math.max(p.draw, 0);
        units = p.units;
        world = fresh();
        done.clear();
        undone.clear();
        Arrays.fill(boxes, null);
        lying = new ArrayList<>();
        heards = new ArrayList<>();
        return things.size();
    }

    private World fresh() {
        World w = new World();
        w.where = things.stream().mapToInt(Thing::in).toArray();
        w.ground = new int[sacks.size()];
        w.seed = draw;
        return w;
    }

    int fault(int what) {
        return what == 0 ? fault : what == 1 ? faultPlace : -1;
    }

    // ---- small parts

    private boolean isPerson(int p) {
        return 0 <= p && p < people.size();
    }

    private boolean isThing(int t) {
        return 0 <= t && t < things.size();
    }

    private boolean isSack(int s) {
        return 0 <= s && s < sacks.size();
    }

    private static int bits(Iterable<Integer> set) {
        int b = 0;
        for (int i : set) {
            b |= 1 << i;
        }
        return b;
    }

    private static Set<Integer> set(int bits) {
        Set<Integer> s = new HashSet<>();
        for (int i = 0; i < 31; i++) {
            if ((bits >> i & 1) == 1) {
                s.add(i);
            }
        }
        return s;
    }

    private List<Integer> keptIn(World w, int sack) {
        List<Integer> l = new ArrayList<>();
        for (int t = 0; t < things.size(); t++) {
            if (w.where[t] == sack && !w.said.contains(t)) {
                l.add(t);
            }
        }
        return l;
    }

    private List<Integer> kept(World w) {
        List<Integer> l = new ArrayList<>();
        for (int t = 0; t < things.size(); t++) {
            if (!w.said.contains(t)) {
                l.add(t);
            }
        }
        return l;
    }

    private int hot(Iterable<Integer> set) {
        int h = 0;
        for (int t : set) {
            h += things.get(t).hot();
        }
        return h;
    }

    private Set<Integer> grindIn(World w, int sack) {
        return grindIn(w, sack, -1, 0);
    }

    private Set<Integer> grindIn(World w, int sack, int shyThing, int shyOfIt) {
        Set<Integer> out = new HashSet<>();
        List<Integer> in = keptIn(w, sack);
        int heat = hot(in);
        for (int t : in) {
            Thing thing = things.get(t);
            int shy = t == shyThing ? shyOfIt : people.get(thing.by()).shy();
            if (w.sits.contains(thing.by()) && w.sits.contains(thing.to())
                    && formula.of(thing.hot(), shy, w.sits.size(), w.ground[sack], heat, w.course) != 0) {
                out.add(t);
            }
        }
        w.said.addAll(out);
        w.ground[sack] = Math.min(99, w.ground[sack] + 1);
        return out;
    }

    private Set<Integer> grindAll(World w) {
        Set<Integer> out = new HashSet<>();
        for (int s = 0; s < sacks.size(); s++) {
            out.addAll(grindIn(w, s));
        }
        return out;
    }

    private Set<Integer> ifSat(Set<Integer> who, int sack) {
        World w = world.copy();
        w.sits = new HashSet<>(who);
        return grindIn(w, sack);
    }

    private List<Set<Integer>> allTables() {
        List<Set<Integer>> l = new ArrayList<>();
        for (int b = 0; b < 1 << people.size(); b++) {
            l.add(set(b));
        }
        l.sort((a, b) -> a.size() != b.size() ? a.size() - b.size() : bits(a) - bits(b));
        return l;
    }

    // ---- what is

    int person(int p, int what) {
        if (!isPerson(p)) {
            return -2;
        }
        List<Integer> by = new ArrayList<>();
        List<Integer> to = new ArrayList<>();
        List<Integer> saidTo = new ArrayList<>();
        for (int t = 0; t < things.size(); t++) {
            boolean said = world.said.contains(t);
            if (!said && things.get(t).by() == p) {
                by.add(t);
            }
            if (things.get(t).to() == p) {
                (said ? saidTo : to).add(t);
            }
        }
        return switch (what) {
            case 0 -> people.get(p).shy();
            case 1 -> world.sits.contains(p) ? 1 : 0;
            case 2 -> bits(by);
            case 3 -> bits(to);
            case 4 -> bits(saidTo);
            default -> -2;
        };
    }

    int thing(int t, int what) {
        if (!isThing(t)) {
            return -2;
        }
        Thing x = things.get(t);
        return switch (what) {
            case 0 -> x.by();
            case 1 -> x.to();
            case 2 -> x.hot();
            case 3 -> world.where[t];
            case 4 -> world.said.contains(t) ? 1 : 0;
            default -> -2;
        };
    }

    int sack(int s, int what) {
        if (!isSack(s)) {
            return -1;
        }
        return switch (what) {
            case 0 -> hot(keptIn(world, s));
            case 1 -> bits(keptIn(world, s));
            case 2 -> world.ground[s];
            default -> -1;
        };
    }

    int would(int s) {
        return isSack(s) ? bits(grindIn(world.copy(), s)) : -1;
    }

    // ---- acts

    private void act(World before) {
        done.addLast(before);
        if (done.size() > 40) {
            done.removeFirst();
        }
        undone.clear();
    }

    int sit(int p) {
        if (!isPerson(p) || world.sits.contains(p)) {
            return -1;
        }
        act(world.copy());
        world.sits.add(p);
        return world.sits.size();
    }

    int rise(int p) {
        if (!isPerson(p) || !world.sits.contains(p)) {
            return -1;
        }
        act(world.copy());
        world.sits.remove(p);
        return world.sits.size();
    }

    int grind(int s) {
        if (!isSack(s)) {
            return -1;
        }
        act(world.copy());
        return bits(grindIn(world, s));
    }

    int pour(int t, int s) {
        if (!isThing(t) || s < -1 || s >= sacks.size() || world.said.contains(t) || world.where[t] == s) {
            return -2;
        }
        act(world.copy());
        int was = world.where[t];
        world.where[t] = s;
        return was;
    }

    int course() {
        if (world.course == 999) {
            return -2;
        }
        act(world.copy());
        world.course++;
        world.seed = (world.seed * 137 + 71) % 1000;
        if (world.seed % 100 >= sneeze) {
            return -1;
        }
        int t = next();
        if (t >= 0) {
            world.said.add(t);
        }
        return t;
    }

    boolean undo() {
        if (done.isEmpty()) {
            return false;
        }
        undone.addLast(world);
        world = done.removeLast();
        return true;
    }

    boolean redo() {
        if (undone.isEmpty()) {
            return false;
        }
        done.addLast(world);
        world = undone.removeLast();
        return true;
    }

    // ---- questions

    int table(int wanted, int s, int what) {
        if (!isSack(s) || what < 0 || what > 1 || wanted < 0 || wanted >= 1 << things.size()) {
            return -1;
        }
        for (Set<Integer> who : allTables()) {
            if (bits(ifSat(who, s)) == wanted) {
                return what == 0 ? who.size() : bits(who);
            }
        }
        return -1;
    }

    int round(int n, int what) {
        lying = new ArrayList<>();
        if (sacks.isEmpty() || n < 0 || n > 4 || what < 0 || what > 1) {
            return -1;
        }
        List<List<Integer>> rows = new ArrayList<>();
        rows.add(List.of());
        for (int i = 0; i < n; i++) {
            List<List<Integer>> longer = new ArrayList<>();
            for (List<Integer> row : rows) {
                for (int s = 0; s < sacks.size(); s++) {
                    List<Integer> l = new ArrayList<>(row);
                    l.add(s);
                    longer.add(l);
                }
            }
            rows = longer;
        }
        int most = -1;
        int hottest = -1;
        for (List<Integer> row : rows) {
            World w = world.copy();
            Set<Integer> out = new HashSet<>();
            for (int s : row) {
                out.addAll(grindIn(w, s));
            }
            if (out.size() > most || out.size() == most && hot(out) > hottest) {
                most = out.size();
                hottest = hot(out);
                lying = row;
            }
        }
        return what == 0 ? most : hottest;
    }

    int mute() {
        List<Integer> l = new ArrayList<>();
        for (int t : kept(world)) {
            boolean can = false;
            for (Set<Integer> who : allTables()) {
                can |= world.where[t] >= 0 && ifSat(who, world.where[t]).contains(t);
            }
            if (!can) {
                l.add(t);
            }
        }
        return bits(l);
    }

    int fewest(int what) {
        if (what < 0 || what > 2) {
            return -1;
        }
        Set<Integer> all = grindAll(world.copy());
        Set<Integer> best = null;
        for (int b = 0; b < 1 << sacks.size(); b++) {
            World w = world.copy();
            Set<Integer> out = new HashSet<>();
            for (int s = 0; s < sacks.size(); s++) {
                if (set(b).contains(s)) {
                    out.addAll(grindIn(w, s));
                }
            }
            if (out.equals(all) && (best == null || set(b).size() < best.size())) {
                best = set(b);
            }
        }
        return what == 0 ? best.size() : what == 1 ? bits(best) : bits(all);
    }

    int send(int s, int what) {
        if (!isSack(s) || what < 0 || what > 1) {
            return -1;
        }
        for (Set<Integer> away : allTables()) {
            Set<Integer> left = new HashSet<>(world.sits);
            left.removeAll(away);
            if (world.sits.containsAll(away) && ifSat(left, s).isEmpty()) {
                return what == 0 ? away.size() : bits(away);
            }
        }
        throw new IllegalStateException("an empty table says nothing");
    }

    int hide(int t, int what) {
        if (!isThing(t) || world.said.contains(t) || what < 0 || what > 1) {
            return -1;
        }
        int best = -1;
        int others = 99;
        for (int s = 0; s < sacks.size(); s++) {
            World w = world.copy();
            w.where[t] = s;
            Set<Integer> out = grindIn(w, s);
            if (!out.contains(t) && out.size() < others) {
                best = s;
                others = out.size();
            }
        }
        return best < 0 ? -1 : what == 0 ? best : others;
    }

    private boolean someSaid(int by, int to) {
        return world.said.stream().anyMatch(t -> things.get(t).by() == by && things.get(t).to() == to);
    }

    int pairs() {
        int n = 0;
        for (int a = 0; a < people.size(); a++) {
            for (int b = 0; b < a; b++) {
                n += someSaid(a, b) && someSaid(b, a) ? 1 : 0;
            }
        }
        return n;
    }

    int gain(int p) {
        if (!isPerson(p)) {
            return -1;
        }
        World w = world.copy();
        w.sits.add(p);
        Set<Integer> out = grindAll(w);
        out.removeIf(t -> things.get(t).to() != p);
        return hot(out);
    }

    private int[] feastOf(int p, int o, int pSits, int oSits) {
        World w = world.copy();
        w.sits.remove(p);
        w.sits.remove(o);
        if (pSits == 1) {
            w.sits.add(p);
        }
        if (oSits == 1) {
            w.sits.add(o);
        }
        int[] has = new int[2];
        for (int t : grindAll(w)) {
            Thing x = things.get(t);
            has[0] += (x.to() == p ? x.hot() : 0) - (x.by() == p ? x.hot() : 0);
            has[1] += (x.to() == o ? x.hot() : 0) - (x.by() == o ? x.hot() : 0);
        }
        return has;
    }

    int feast(int p, int o) {
        lying = new ArrayList<>();
        if (!isPerson(p) || !isPerson(o) || p == o) {
            return -1;
        }
        int rests = 0;
        for (int a = 0; a < 2; a++) {
            for (int b = 0; b < 2; b++) {
                int[] here = feastOf(p, o, a, b);
                if (feastOf(p, o, 1 - a, b)[0] <= here[0] && feastOf(p, o, a, 1 - b)[1] <= here[1]) {
                    if (rests == 0) {
                        lying = List.of(a, b);
                    }
                    rests++;
                }
            }
        }
        return rests;
    }

    int shyest(int t) {
        if (!isThing(t) || world.said.contains(t) || world.where[t] < 0) {
            return -1;
        }
        int best = -1;
        for (int shy = 0; shy <= 9; shy++) {
            if (grindIn(world.copy(), world.where[t], t, shy).contains(t)) {
                best = shy;
            }
        }
        return best;
    }

    private void lines(List<Integer> row, List<List<Integer>> all) {
        all.add(row);
        for (int p = 0; p < people.size(); p++) {
            if (row.contains(p)) {
                continue;
            }
            int to = p;
            boolean goesOn = row.isEmpty() || kept(world).stream().anyMatch(
                    t -> things.get(t).by() == row.get(row.size() - 1) && things.get(t).to() == to);
            if (goesOn) {
                List<Integer> l = new ArrayList<>(row);
                l.add(p);
                lines(l, all);
            }
        }
    }

    int line() {
        List<List<Integer>> all = new ArrayList<>();
        lines(List.of(), all);
        all.sort((a, b) -> {
            if (a.size() != b.size()) {
                return b.size() - a.size();
            }
            return Arrays.compare(a.stream().mapToInt(i -> i).toArray(), b.stream().mapToInt(i -> i).toArray());
        });
        lying = all.get(0);
        return lying.size();
    }

    int invite(int what) {
        if (what < 0 || what > 1) {
            return -1;
        }
        int best = -1;
        int most = -1;
        for (int p = 0; p < people.size(); p++) {
            World w = world.copy();
            if (w.sits.add(p)) {
                int n = grindAll(w).size();
                if (n > most) {
                    best = p;
                    most = n;
                }
            }
        }
        return what == 0 ? best : most;
    }

    int blend(int s, int o) {
        if (!isSack(s) || !isSack(o) || s == o) {
            return -1;
        }
        World w = world.copy();
        for (int t : keptIn(world, o)) {
            w.where[t] = s;
        }
        return grindIn(w, s).size();
    }

    int exchange(int what) {
        int a = -1;
        int b = -1;
        int most = grindAll(world.copy()).size();
        for (int t : kept(world)) {
            for (int u : kept(world)) {
                World w = world.copy();
                if (t < u && w.where[t] >= 0 && w.where[u] >= 0 && w.where[t] != w.where[u]) {
                    w.where[t] = world.where[u];
                    w.where[u] = world.where[t];
                    int n = grindAll(w).size();
                    if (n > most) {
                        a = t;
                        b = u;
                        most = n;
                    }
                }
            }
        }
        return a < 0 ? -1 : what == 0 ? a : what == 1 ? b : what == 2 ? most : -1;
    }

    int after(int t) {
        if (!isThing(t) || world.said.contains(t) || world.where[t] < 0) {
            return -1;
        }
        World w = world.copy();
        for (int n = 1; n <= 9; n++) {
            grindIn(w, w.where[t]);
            if (w.said.contains(t)) {
                return n;
            }
        }
        return -1;
    }

    int rumour(int p, int o) {
        if (!isPerson(p) || !isPerson(o)) {
            return -1;
        }
        int[][] far = new int[6][6];
        for (int[] row : far) {
            Arrays.fill(row, 99);
        }
        for (int i = 0; i < 6; i++) {
            far[i][i] = 0;
        }
        for (int t : world.said) {
            far[things.get(t).by()][things.get(t).to()] = 1;
        }
        for (int k = 0; k < 6; k++) {
            for (int i = 0; i < 6; i++) {
                for (int j = 0; j < 6; j++) {
                    far[i][j] = Math.min(far[i][j], far[i][k] + far[k][j]);
                }
            }
        }
        return far[p][o] == 99 ? -1 : far[p][o];
    }

    int keeps(int p, int o) {
        if (!isPerson(p) || !isPerson(o)) {
            return -1;
        }
        List<Integer> l = kept(world);
        l.removeIf(t -> things.get(t).by() != p || things.get(t).to() != o);
        return hot(l);
    }

    int dupe() {
        int best = -1;
        for (int p = 0; p < people.size(); p++) {
            if (best < 0 || hot(set(person(p, 3))) > hot(set(person(best, 3)))) {
                best = p;
            }
        }
        return best;
    }

    int spark(int s) {
        if (!isSack(s)) {
            return -1;
        }
        for (Set<Integer> who : allTables()) {
            if (who.containsAll(world.sits) && !ifSat(who, s).isEmpty()) {
                return who.size() - world.sits.size();
            }
        }
        return -1;
    }

    int spine(int s) {
        if (!isSack(s)) {
            return -1;
        }
        Set<Integer> all = null;
        for (Set<Integer> who : allTables()) {
            if (!ifSat(who, s).isEmpty()) {
                if (all == null) {
                    all = new HashSet<>(who);
                }
                all.retainAll(who);
            }
        }
        return all == null ? -1 : bits(all);
    }

    int idle() {
        List<Integer> l = new ArrayList<>();
        for (int s = 0; s < sacks.size(); s++) {
            if (would(s) == 0) {
                l.add(s);
            }
        }
        return bits(l);
    }

    int storm() {
        return hot(grindAll(world.copy()));
    }

    int hottest() {
        int best = -1;
        for (int s = 0; s < sacks.size(); s++) {
            if (best < 0 || sack(s, 0) > sack(best, 0)) {
                best = s;
            }
        }
        return best;
    }

    int closest() {
        int best = -1;
        for (int p = 0; p < people.size(); p++) {
            if (best < 0 || set(person(p, 2)).size() > set(person(best, 2)).size()) {
                best = p;
            }
        }
        return best;
    }

    int rank() {
        List<Integer> l = new ArrayList<>();
        for (int p = 0; p < people.size(); p++) {
            l.add(p);
        }
        l.sort((a, b) -> hot(set(person(b, 2))) - hot(set(person(a, 2))));
        lying = l;
        return l.size();
    }

    int near() {
        List<Integer> l = kept(world);
        l.removeIf(t -> !world.sits.contains(things.get(t).by()) || !world.sits.contains(things.get(t).to()));
        return bits(l);
    }

    int scandal() {
        return hot(world.said);
    }

    int law(int s, int n) {
        if (!isSack(s) || n < 0 || n > 99) {
            return -1;
        }
        World w = world.copy();
        w.ground[s] = n;
        return grindIn(w, s).size();
    }

    int next() {
        int best = -1;
        for (int t : kept(world)) {
            if (world.sits.contains(things.get(t).by()) && (best < 0 || things.get(t).hot() > things.get(best).hot())) {
                best = t;
            }
        }
        return best;
    }

    int odds(int n, int part) {
        if (n < 0 || n > 4 || part < 0 || part > 1) {
            return -1;
        }
        java.math.BigInteger up = java.math.BigInteger.valueOf(100 - sneeze).pow(n);
        java.math.BigInteger low = java.math.BigInteger.valueOf(100).pow(n);
        return (part == 0 ? up : low).divide(up.gcd(low)).intValueExact();
    }

    int lies(int i) {
        return i < 0 || i >= lying.size() ? -1 : lying.get(i);
    }

    // ---- what was heard

    int heard(int s, int many, boolean is) {
        if (!isSack(s) || many < 0 || many > 10 || heards.size() == 30 || things.isEmpty()) {
            return -1;
        }
        heards.add(new Heard(s, many, is, time, new int[1]));
        return heards.size() - 1;
    }

    boolean untell(int h) {
        if (h < 0 || h >= heards.size() || heards.get(h).untold()[0] != 0) {
            return false;
        }
        // One more, so that 0 stays for what was not untold.
        heards.get(h).untold()[0] = time + 1;
        return true;
    }

    int later(int by) {
        if (by < 0 || by > 1000 || time + by > 100_000) {
            return -1;
        }
        time += by;
        return time;
    }

    private int saidOf(int[] row, int s) {
        World w = fresh();
        for (int p = 0; p < people.size(); p++) {
            w.sits.add(p);
        }
        int n = things.size();
        w.where[n - 1] = row[1];
        if (n > 1) {
            w.where[n - 2] = row[0];
        }
        return grindIn(w, s).size();
    }

    private List<int[]> rowsAt(int k) {
        List<int[]> l = new ArrayList<>();
        for (int a = -1; a < sacks.size(); a++) {
            for (int b = -1; b < sacks.size(); b++) {
                int[] row = {a, b};
                boolean fits = things.size() > 1 || things.size() == 1 && a == -1;
                for (Heard h : heards) {
                    int untold = h.untold()[0];
                    if (h.told() <= k && !(untold > 0 && untold - 1 <= k)) {
                        fits = fits && saidOf(row, h.sack()) >= h.many() == h.is();
                    }
                }
                if (fits) {
                    l.add(row);
                }
            }
        }
        return l;
    }

    int rows(int k) {
        return rowsAt(k).size();
    }

    int sure(int which, int k) {
        List<int[]> l = rowsAt(k);
        if (which < 0 || which > 1 || which >= things.size() || l.isEmpty()) {
            return -3;
        }
        long many = l.stream().mapToInt(r -> r[1 - which]).distinct().count();
        return many > 1 ? -2 : l.get(0)[1 - which];
    }

    int ask(int what, int k) {
        List<int[]> l = rowsAt(k);
        if (what < 0 || what > 1 || l.isEmpty() || sacks.isEmpty()) {
            return -1;
        }
        int best = -1;
        int fewest = 99;
        for (int s = 0; s < sacks.size(); s++) {
            int[] by = new int[11];
            for (int[] row : l) {
                by[saidOf(row, s)]++;
            }
            int most = Arrays.stream(by).max().getAsInt();
            if (most < fewest) {
                best = s;
                fewest = most;
            }
        }
        return what == 0 ? best : fewest;
    }

    // ---- images, about

    int image(int box) {
        if (box < 0 || box > 2) {
            return -1;
        }
        boxes[box] = world.copy();
        return world.course;
    }

    int back(int box) {
        if (box < 0 || box > 2 || boxes[box] == null) {
            return -1;
        }
        world = boxes[box].copy();
        done.clear();
        undone.clear();
        return world.course;
    }

    int about(int what) {
        return switch (what) {
            case 0 -> things.size();
            case 1 -> people.size();
            case 2 -> sacks.size();
            case 3 -> bits(world.sits);
            case 4 -> bits(world.said);
            case 5 -> world.course;
            case 6 -> world.seed;
            case 7 -> done.size();
            case 8 -> undone.size();
            case 9 -> heards.size();
            case 10 -> time;
            case 11 -> tape.length();
            case 12 -> units;
            case 13 -> lying.size();
            case 14 -> sneeze;
            case 15 -> hot(kept(world));
            default -> -1;
        };
    }
}
