/**
 * People who kept things back from one another, the sacks these lie in, and what is said
 * when a sack is ground at the table. The document's promises are named by their numbers.
 */
public final class PepperTables {
    public static final int NONE = -1;

    /** The answer for "can't be" where -1 already says "in no sack". */
    private static final int REFUSED = -2;
    private static final int NO_ROWS = -3;

    private static final int MOST_BYTES = 1600;
    private static final int MOST_PEOPLE = 6;
    private static final int MOST_SACKS = 5;
    private static final int MOST_THINGS = 10;
    private static final int MOST_GROUND = 99;
    private static final int MOST_COURSES = 999;
    private static final int MOST_SHY = 9;
    private static final int MOST_ROUNDS = 4;
    private static final int MOST_TRIES = 9;
    private static final int BOX_COUNT = 3;
    /** In a score one thing more counts for more than all heat: ten things are 90 hot at the most. */
    private static final int COUNT_WEIGHT = 1000;

    private final Reader reader;
    private Told told;
    private final State now;
    private final State trial;
    private final Mill mill;
    private final Acts acts;
    private final Boxes boxes;
    private final Lying lying;
    private final Hearsay hearsay;
    private final int[] scores;
    private final int[] firstGains;
    private final int[] otherGains;

    /** Promise 1. */
    public PepperTables() {
        reader = new Reader();
        told = new Told();
        now = new State();
        trial = new State();
        mill = new Mill();
        acts = new Acts();
        boxes = new Boxes();
        lying = new Lying();
        hearsay = new Hearsay();
        scores = new int[MOST_SACKS * MOST_ROUNDS];
        firstGains = new int[4];
        otherGains = new int[4];
    }

    // ---- the text: promises 2 to 5

    /** Promise 2. */
    public int feed(int a, int b, int c, int d, int e) {
        if (reader.length + 20 > MOST_BYTES) {
            return NONE;
        }
        reader.addNumber(a);
        reader.addNumber(b);
        reader.addNumber(c);
        reader.addNumber(d);
        reader.addNumber(e);
        return reader.length;
    }

    /** Promise 3. */
    public int end(int n) {
        if (n < 0 || n > reader.length) {
            return NONE;
        }
        reader.length = n;
        return n;
    }

    /** Promise 4. */
    public int store() {
        if (!reader.readAll()) {
            return NONE;
        }
        // The reader writes into a spare, so that a fault leaves the old store whole.
        Told old = told;
        told = reader.target;
        reader.target = old;
        reader.length = 0;
        now.begin(told);
        acts.forget(now);
        boxes.forget();
        lying.count = 0;
        hearsay.forget();
        return told.things;
    }

    /** Promise 5. */
    public int fault(int what) {
        if (what == 0) {
            return reader.fault;
        }
        return what == 1 ? reader.faultPlace : NONE;
    }

    // ---- what is: promises 6 to 9

    /** Promise 6. */
    public int person(int person, int what) {
        if (!isPerson(person)) {
            return REFUSED;
        }
        switch (what) {
            case 0:
                return told.shy[person];
            case 1:
                return (now.sits >> person) & 1;
            case 2:
                return now.kept(told) & told.thingsBy(person);
            case 3:
                return now.kept(told) & told.thingsTo(person);
            case 4:
                return now.said & told.thingsTo(person);
            default:
                return REFUSED;
        }
    }

    /** Promise 7. */
    public int thing(int thing, int what) {
        if (!isThing(thing)) {
            return REFUSED;
        }
        switch (what) {
            case 0:
                return told.by[thing];
            case 1:
                return told.to[thing];
            case 2:
                return told.hot[thing];
            case 3:
                return now.where[thing];
            case 4:
                return (now.said >> thing) & 1;
            default:
                return REFUSED;
        }
    }

    /** Promise 8. */
    public int sack(int sack, int what) {
        if (!isSack(sack)) {
            return NONE;
        }
        switch (what) {
            case 0:
                return told.heatOf(now.keptIn(told, sack));
            case 1:
                return now.keptIn(told, sack);
            case 2:
                return now.ground[sack];
            default:
                return NONE;
        }
    }

    /** Promise 9. */
    public int would(int sack) {
        return isSack(sack) ? mill.letOut(told, now, sack) : NONE;
    }

    // ---- acts: promises 10 to 16

    /** Promise 10. */
    public int sit(int person) {
        if (!isPerson(person) || isSitting(person)) {
            return NONE;
        }
        now.sits |= 1 << person;
        acts.keep(now);
        return Integer.bitCount(now.sits);
    }

    /** Promise 11. */
    public int rise(int person) {
        if (!isPerson(person) || !isSitting(person)) {
            return NONE;
        }
        now.sits &= ~(1 << person);
        acts.keep(now);
        return Integer.bitCount(now.sits);
    }

    /** Promise 12. */
    public int grind(int sack) {
        if (!isSack(sack)) {
            return NONE;
        }
        int out = mill.turn(told, now, sack);
        acts.keep(now);
        return out;
    }

    /** Promise 13. */
    public int pour(int thing, int sack) {
        if (!isKept(thing) || (sack != NONE && !isSack(sack)) || now.where[thing] == sack) {
            return REFUSED;
        }
        int was = now.where[thing];
        now.where[thing] = sack;
        acts.keep(now);
        return was;
    }

    /** Promise 14. */
    public int course() {
        if (now.course >= MOST_COURSES) {
            return REFUSED;
        }
        now.course++;
        now.seed = (now.seed * 137 + 71) % 1000;
        int out = NONE;
        if (now.seed % 100 < told.sneeze) {
            out = sneezed();
        }
        if (out != NONE) {
            now.said |= 1 << out;
        }
        acts.keep(now);
        return out;
    }

    /** Promise 15. */
    public boolean undo() {
        return acts.stepBack(now);
    }

    /** Promise 16. */
    public boolean redo() {
        return acts.stepOn(now);
    }

    // ---- who would have to sit: promises 17, 19, 21, 35, 36

    /** Promise 17. */
    public int table(int things, int sack, int what) {
        if (!isSack(sack) || !isEither(what) || (things & ~told.allThings()) != 0) {
            return NONE;
        }
        mill.passAtAllSizes(told, now, sack);
        int best = NONE;
        for (int sits = 0; sits <= told.allPeople(); sits++) {
            if (mill.letOutAt(told, sits) == things && isSmaller(sits, best)) {
                best = sits;
            }
        }
        return counted(best, what);
    }

    /** Promise 19. */
    public int mute() {
        int silent = now.kept(told);
        for (int sack = 0; sack < told.sacks; sack++) {
            // Any two may sit at a table of any size from two on: who they are leaves the sizes alone to try.
            for (int guests = 2; guests <= told.people; guests++) {
                silent &= ~mill.passing(told, now, sack, guests, told.allThings());
            }
        }
        return silent;
    }

    /** Promise 21. */
    public int send(int sack, int what) {
        if (!isSack(sack) || !isEither(what)) {
            return NONE;
        }
        mill.passAtAllSizes(told, now, sack);
        int best = NONE;
        for (int away = 0; away <= now.sits; away++) {
            boolean sitting = (away & ~now.sits) == 0;
            if (sitting && mill.letOutAt(told, now.sits & ~away) == 0 && isSmaller(away, best)) {
                best = away;
            }
        }
        return counted(best, what);
    }

    /** Promise 35. */
    public int spark(int sack) {
        if (!isSack(sack)) {
            return NONE;
        }
        mill.passAtAllSizes(told, now, sack);
        int best = NONE;
        for (int sits = 0; sits <= told.allPeople(); sits++) {
            boolean noneLeft = (now.sits & ~sits) == 0;
            if (noneLeft && mill.letOutAt(told, sits) != 0 && isSmaller(sits, best)) {
                best = sits;
            }
        }
        return best == NONE ? NONE : Integer.bitCount(best) - Integer.bitCount(now.sits);
    }

    /** Promise 36. */
    public int spine(int sack) {
        if (!isSack(sack)) {
            return NONE;
        }
        mill.passAtAllSizes(told, now, sack);
        // All bits set: no table has been met yet.
        int shared = NONE;
        for (int sits = 0; sits <= told.allPeople(); sits++) {
            if (mill.letOutAt(told, sits) != 0) {
                shared &= sits;
            }
        }
        return shared;
    }

    // ---- which sacks to grind: promises 18, 20, 31, 37, 38, 44

    /** Promise 18. */
    public int round(int n, int what) {
        lying.count = 0;
        if (told.sacks == 0 || n < 0 || n > MOST_ROUNDS || !isEither(what)) {
            return NONE;
        }
        scoreGrindings(n);
        int rowCount = 1;
        for (int i = 0; i < n; i++) {
            rowCount *= told.sacks;
        }
        int best = 0;
        int bestScore = NONE;
        for (int row = 0; row < rowCount; row++) {
            int score = scoreOfRow(row, n);
            if (score > bestScore) {
                best = row;
                bestScore = score;
            }
        }
        layRow(best, n);
        return what == 0 ? bestScore / COUNT_WEIGHT : bestScore % COUNT_WEIGHT;
    }

    /** Promise 20. */
    public int fewest(int what) {
        int sacks = 0;
        int out = 0;
        for (int sack = 0; sack < told.sacks; sack++) {
            // What one sack lets out hangs on no other sack, so just those are needed that let something out.
            int some = mill.letOut(told, now, sack);
            out |= some;
            if (some != 0) {
                sacks |= 1 << sack;
            }
        }
        switch (what) {
            case 0:
                return Integer.bitCount(sacks);
            case 1:
                return sacks;
            case 2:
                return out;
            default:
                return NONE;
        }
    }

    /** Promise 31. */
    public int after(int thing) {
        if (!isKept(thing) || !isSack(now.where[thing])) {
            return NONE;
        }
        trial.copyFrom(now);
        for (int times = 1; times <= MOST_TRIES; times++) {
            int out = mill.turn(told, trial, now.where[thing]);
            if (((out >> thing) & 1) != 0) {
                return times;
            }
        }
        return NONE;
    }

    /** Promise 37. */
    public int idle() {
        int sacks = 0;
        for (int sack = 0; sack < told.sacks; sack++) {
            if (mill.letOut(told, now, sack) == 0) {
                sacks |= 1 << sack;
            }
        }
        return sacks;
    }

    /** Promise 38. */
    public int storm() {
        return told.heatOf(mill.letOutOfAll(told, now));
    }

    /** Promise 44. */
    public int law(int sack, int n) {
        if (!isSack(sack) || n < 0 || n > MOST_GROUND) {
            return NONE;
        }
        trial.copyFrom(now);
        trial.ground[sack] = n;
        return Integer.bitCount(mill.letOut(told, trial, sack));
    }

    // ---- where things should lie: promises 22, 26, 29, 30

    /** Promise 22. */
    public int hide(int thing, int what) {
        if (!isKept(thing) || !isEither(what)) {
            return NONE;
        }
        int best = NONE;
        int bestOthers = MOST_THINGS + 1;
        for (int sack = 0; sack < told.sacks; sack++) {
            trial.copyFrom(now);
            trial.where[thing] = sack;
            int out = mill.letOut(told, trial, sack);
            int others = Integer.bitCount(out);
            if (((out >> thing) & 1) == 0 && others < bestOthers) {
                best = sack;
                bestOthers = others;
            }
        }
        if (best == NONE) {
            return NONE;
        }
        return what == 0 ? best : bestOthers;
    }

    /** Promise 26. */
    public int shyest(int thing) {
        if (!isKept(thing) || !isSack(now.where[thing])) {
            return NONE;
        }
        if (((told.thingsAmong(now.sits) >> thing) & 1) == 0) {
            return NONE;
        }
        mill.setUp(told, now, now.where[thing], Integer.bitCount(now.sits));
        for (int shy = MOST_SHY; shy >= 0; shy--) {
            if (mill.passes(told, thing, shy)) {
                return shy;
            }
        }
        return NONE;
    }

    /** Promise 29. */
    public int blend(int sack, int other) {
        if (!isSack(sack) || !isSack(other) || sack == other) {
            return NONE;
        }
        int moved = now.keptIn(told, other);
        trial.copyFrom(now);
        for (int thing = 0; thing < told.things; thing++) {
            if (((moved >> thing) & 1) != 0) {
                trial.where[thing] = sack;
            }
        }
        return Integer.bitCount(mill.letOut(told, trial, sack));
    }

    /** Promise 30. */
    public int exchange(int what) {
        if (what < 0 || what > 2) {
            return NONE;
        }
        int out = mill.letOutOfAll(told, now);
        int most = Integer.bitCount(out);
        int first = NONE;
        int second = NONE;
        for (int one = 0; one < told.things; one++) {
            for (int other = one + 1; other < told.things; other++) {
                int count = saidIfExchanged(one, other, out);
                if (count > most) {
                    first = one;
                    second = other;
                    most = count;
                }
            }
        }
        if (first == NONE) {
            return NONE;
        }
        if (what == 2) {
            return most;
        }
        return what == 0 ? first : second;
    }

    // ---- what people get: promises 23 to 25, 27, 28, 32 to 34, 40, 41

    /** Promise 23. */
    public int pairs() {
        int count = 0;
        for (int one = 0; one < told.people; one++) {
            for (int other = one + 1; other < told.people; other++) {
                int there = now.said & told.thingsBy(one) & told.thingsTo(other);
                int here = now.said & told.thingsBy(other) & told.thingsTo(one);
                if (there != 0 && here != 0) {
                    count++;
                }
            }
        }
        return count;
    }

    /** Promise 24. */
    public int gain(int person) {
        if (!isPerson(person)) {
            return NONE;
        }
        trial.copyFrom(now);
        trial.sits |= 1 << person;
        return told.heatOf(mill.letOutOfAll(told, trial) & told.thingsTo(person));
    }

    /** Promise 25. */
    public int feast(int person, int other) {
        lying.count = 0;
        if (!isPerson(person) || !isPerson(other) || person == other) {
            return NONE;
        }
        reckonGains(person, other);
        int rests = 0;
        for (int choice = 0; choice < 4; choice++) {
            boolean firstStays = firstGains[choice] >= firstGains[choice ^ 2];
            boolean otherStays = otherGains[choice] >= otherGains[choice ^ 1];
            if (firstStays && otherStays) {
                rests++;
                if (rests == 1) {
                    lying.add(choice >> 1);
                    lying.add(choice & 1);
                }
            }
        }
        return rests;
    }

    /** Promise 27. */
    public int line() {
        lying.layLongestLine(told, now.kept(told));
        return lying.count;
    }

    /** Promise 28. */
    public int invite(int what) {
        if (!isEither(what)) {
            return NONE;
        }
        int best = NONE;
        int most = NONE;
        for (int person = 0; person < told.people; person++) {
            if (!isSitting(person)) {
                trial.copyFrom(now);
                trial.sits |= 1 << person;
                int count = Integer.bitCount(mill.letOutOfAll(told, trial));
                if (count > most) {
                    best = person;
                    most = count;
                }
            }
        }
        return what == 0 ? best : most;
    }

    /** Promise 32. */
    public int rumour(int person, int other) {
        if (!isPerson(person) || !isPerson(other)) {
            return NONE;
        }
        int reached = 1 << person;
        for (int steps = 0; steps < told.people; steps++) {
            if (((reached >> other) & 1) != 0) {
                return steps;
            }
            reached |= told.listenersOf(reached, now.said);
        }
        return NONE;
    }

    /** Promise 33. */
    public int keeps(int person, int other) {
        if (!isPerson(person) || !isPerson(other)) {
            return NONE;
        }
        return told.heatOf(now.kept(told) & told.thingsBy(person) & told.thingsTo(other));
    }

    /** Promise 34. */
    public int dupe() {
        int best = NONE;
        int most = NONE;
        for (int person = 0; person < told.people; person++) {
            int heat = told.heatOf(now.kept(told) & told.thingsTo(person));
            if (heat > most) {
                best = person;
                most = heat;
            }
        }
        return best;
    }

    /** Promise 40. */
    public int closest() {
        int best = NONE;
        int most = NONE;
        for (int person = 0; person < told.people; person++) {
            int count = Integer.bitCount(now.kept(told) & told.thingsBy(person));
            if (count > most) {
                best = person;
                most = count;
            }
        }
        return best;
    }

    /** Promise 41. */
    public int rank() {
        lying.count = 0;
        int placed = 0;
        for (int place = 0; place < told.people; place++) {
            int person = hottestKeeper(placed);
            if (person != NONE) {
                placed |= 1 << person;
                lying.add(person);
            }
        }
        return told.people;
    }

    // ---- single numbers: promises 39, 42, 43, 45 to 47

    /** Promise 39. */
    public int hottest() {
        int best = NONE;
        int most = NONE;
        for (int sack = 0; sack < told.sacks; sack++) {
            int heat = told.heatOf(now.keptIn(told, sack));
            if (heat > most) {
                best = sack;
                most = heat;
            }
        }
        return best;
    }

    /** Promise 42. */
    public int near() {
        return now.kept(told) & told.thingsAmong(now.sits);
    }

    /** Promise 43. */
    public int scandal() {
        return told.heatOf(now.said);
    }

    /** Promise 45. */
    public int next() {
        return sneezed();
    }

    /** Promise 46. */
    public int odds(int n, int part) {
        if (n < 0 || n > MOST_ROUNDS || !isEither(part)) {
            return NONE;
        }
        int calm = 100 - told.sneeze;
        int shared = commonDivisor(calm, 100);
        // Powers of two numbers without a common divisor have none either.
        int base = part == 0 ? calm / shared : 100 / shared;
        int power = 1;
        for (int i = 0; i < n; i++) {
            power *= base;
        }
        return power;
    }

    /** Promise 47. */
    public int lies(int i) {
        return lying.numberAt(i);
    }

    // ---- what was heard: promises 48 to 53

    /** Promise 48. */
    public int heard(int sack, int many, boolean is) {
        if (!isSack(sack) || many < 0 || many > MOST_THINGS || told.things == 0) {
            return NONE;
        }
        return hearsay.tell(sack, many, is);
    }

    /** Promise 49. */
    public boolean untell(int heard) {
        return hearsay.takeBack(heard);
    }

    /** Promise 50. */
    public int later(int by) {
        return hearsay.goOn(by);
    }

    /** Promise 51. */
    public int rows(int k) {
        return hearsay.sift(told, mill, k);
    }

    /** Promise 52. */
    public int sure(int which, int k) {
        boolean isThere = which == 0 ? told.things >= 1 : which == 1 && told.things >= 2;
        if (!isThere || hearsay.sift(told, mill, k) == 0) {
            return NO_ROWS;
        }
        return hearsay.sameInAll(told, which == 0);
    }

    /** Promise 53. */
    public int ask(int what, int k) {
        if (!isEither(what) || hearsay.sift(told, mill, k) == 0) {
            return NONE;
        }
        int best = NONE;
        int fewestLeft = Hearsay.MOST_ROWS + 1;
        for (int sack = 0; sack < told.sacks; sack++) {
            int left = hearsay.mostLeftBy(sack);
            if (left < fewestLeft) {
                best = sack;
                fewestLeft = left;
            }
        }
        if (best == NONE) {
            return NONE;
        }
        return what == 0 ? best : fewestLeft;
    }

    // ---- images, and about all: promises 54 to 56

    /** Promise 54. */
    public int image(int box) {
        return boxes.fill(box, now) ? now.course : NONE;
    }

    /** Promise 55. */
    public int back(int box) {
        if (!boxes.restore(box, now)) {
            return NONE;
        }
        acts.forget(now);
        return now.course;
    }

    /** Promise 56. */
    public int about(int what) {
        switch (what) {
            case 0:
                return told.things;
            case 1:
                return told.people;
            case 2:
                return told.sacks;
            case 3:
                return now.sits;
            case 4:
                return now.said;
            case 5:
                return now.course;
            case 6:
                return now.seed;
            case 7:
                return acts.undoable;
            case 8:
                return acts.redoable;
            case 9:
                return hearsay.count;
            case 10:
                return hearsay.time;
            case 11:
                return reader.length;
            case 12:
                return told.units;
            case 13:
                return lying.count;
            case 14:
                return told.sneeze;
            case 15:
                return told.heatOf(now.kept(told));
            default:
                return NONE;
        }
    }

    // ---- helpers of the promises

    private boolean isPerson(int person) {
        return person >= 0 && person < told.people;
    }

    private boolean isThing(int thing) {
        return thing >= 0 && thing < told.things;
    }

    private boolean isSack(int sack) {
        return sack >= 0 && sack < told.sacks;
    }

    private boolean isKept(int thing) {
        return isThing(thing) && ((now.said >> thing) & 1) == 0;
    }

    private boolean isSitting(int person) {
        return ((now.sits >> person) & 1) != 0;
    }

    private static boolean isEither(int what) {
        return what == 0 || what == 1;
    }

    /** Sets are tried in rising order, so of like ones the least stays. */
    private static boolean isSmaller(int set, int best) {
        return best == NONE || Integer.bitCount(set) < Integer.bitCount(best);
    }

    private static int counted(int set, int what) {
        if (set == NONE) {
            return NONE;
        }
        return what == 0 ? Integer.bitCount(set) : set;
    }

    private int sneezed() {
        int best = NONE;
        int kept = now.kept(told);
        for (int thing = 0; thing < told.things; thing++) {
            boolean mayBe = ((kept >> thing) & 1) != 0 && isSitting(told.by[thing]);
            if (mayBe && (best == NONE || told.hot[thing] > told.hot[best])) {
                best = thing;
            }
        }
        return best;
    }

    /** No sack's grinding changes another one's, so a row's worth is told by how often each sack is in it. */
    private void scoreGrindings(int n) {
        trial.copyFrom(now);
        for (int sack = 0; sack < told.sacks; sack++) {
            for (int times = 0; times < n && times < MOST_ROUNDS; times++) {
                int out = mill.turn(told, trial, sack);
                scores[sack * MOST_ROUNDS + times] = Integer.bitCount(out) * COUNT_WEIGHT + told.heatOf(out);
            }
        }
    }

    /** A row of n sacks is a number of n digits to the base of how many sacks there are: rising is by numbers. */
    private int scoreOfRow(int row, int n) {
        int score = 0;
        int rest = row;
        // Four bits a sack: how often it was met.
        int met = 0;
        for (int i = 0; i < n && i < MOST_ROUNDS && told.sacks > 0; i++) {
            int sack = rest % told.sacks;
            rest /= told.sacks;
            int times = (met >> (4 * sack)) & 15;
            score += scores[sack * MOST_ROUNDS + times];
            met += 1 << (4 * sack);
        }
        return score;
    }

    private void layRow(int row, int n) {
        int weight = 1;
        for (int i = 1; i < n; i++) {
            weight *= told.sacks;
        }
        int rest = row;
        for (int i = 0; i < n && weight > 0 && told.sacks > 0; i++) {
            lying.add(rest / weight);
            rest %= weight;
            weight /= told.sacks;
        }
    }

    /** How many; out is what all sacks let out as it is, which stays so in the sacks that have no part in it. */
    private int saidIfExchanged(int one, int other, int out) {
        int here = now.where[one];
        int there = now.where[other];
        if (!isKept(one) || !isKept(other) || here == NONE || there == NONE || here == there) {
            return NONE;
        }
        trial.copyFrom(now);
        trial.where[one] = there;
        trial.where[other] = here;
        int elsewhere = out & ~(now.keptIn(told, here) | now.keptIn(told, there));
        return Integer.bitCount(elsewhere | mill.letOut(told, trial, here) | mill.letOut(told, trial, there));
    }

    /** Choice 0 .. 3: the first one's sitting is its upper bit, the other one's the lower. */
    private void reckonGains(int person, int other) {
        for (int choice = 0; choice < 4; choice++) {
            trial.copyFrom(now);
            trial.sits &= ~((1 << person) | (1 << other));
            trial.sits |= (choice >> 1) << person;
            trial.sits |= (choice & 1) << other;
            int out = mill.letOutOfAll(told, trial);
            firstGains[choice] = gainOf(person, out);
            otherGains[choice] = gainOf(other, out);
        }
    }

    private int gainOf(int person, int out) {
        return told.heatOf(out & told.thingsTo(person)) - told.heatOf(out & told.thingsBy(person));
    }

    private int hottestKeeper(int placed) {
        int best = NONE;
        int most = NONE;
        for (int person = 0; person < told.people; person++) {
            int heat = told.heatOf(now.kept(told) & told.thingsBy(person));
            if (((placed >> person) & 1) == 0 && heat > most) {
                best = person;
                most = heat;
            }
        }
        return best;
    }

    /** Of a number 0 .. 100 and 100. */
    private static int commonDivisor(int number, int hundred) {
        for (int divisor = hundred; divisor > 1; divisor--) {
            if (number % divisor == 0 && hundred % divisor == 0) {
                return divisor;
            }
        }
        return 1;
    }

    // ---- the parts

    /** The store as it was told: nothing in it changes by acts. */
    static final class Told {
        /** Units are 30 at most; each may stand behind seven nots. */
        static final int MOST_CODE = 320;

        int people;
        int sacks;
        int things;
        int units;
        int sneeze;
        int draw;
        int codeLength;
        boolean hasFormula;
        boolean hasSneeze;
        boolean hasDraw;
        final int[] shy = new int[MOST_PEOPLE];
        final int[] by = new int[MOST_THINGS];
        final int[] to = new int[MOST_THINGS];
        final int[] hot = new int[MOST_THINGS];
        final int[] in = new int[MOST_THINGS];
        /** The formula, operands ahead of their operator, by the reader's kinds of tokens. */
        final int[] code = new int[MOST_CODE];
        final long[] personNames = new long[MOST_PEOPLE];
        final long[] sackNames = new long[MOST_SACKS];
        final long[] thingNames = new long[MOST_THINGS];

        Told() {
            beginFormula();
        }

        void clear() {
            people = 0;
            sacks = 0;
            things = 0;
            units = 0;
            sneeze = 0;
            draw = 0;
            hasFormula = false;
            hasSneeze = false;
            hasDraw = false;
            beginFormula();
        }

        private void beginFormula() {
            codeLength = 3;
            code[0] = Reader.WORD_HOT;
            code[1] = Reader.WORD_SHY;
            code[2] = '>';
        }

        int allPeople() {
            return (1 << people) - 1;
        }

        int allThings() {
            return (1 << things) - 1;
        }

        int heatOf(int set) {
            int heat = 0;
            for (int thing = 0; thing < things; thing++) {
                if (((set >> thing) & 1) != 0) {
                    heat += hot[thing];
                }
            }
            return heat;
        }

        int thingsBy(int person) {
            int set = 0;
            for (int thing = 0; thing < things; thing++) {
                if (by[thing] == person) {
                    set |= 1 << thing;
                }
            }
            return set;
        }

        int thingsTo(int person) {
            int set = 0;
            for (int thing = 0; thing < things; thing++) {
                if (to[thing] == person) {
                    set |= 1 << thing;
                }
            }
            return set;
        }

        /** Things whose both people are in a set. */
        int thingsAmong(int sits) {
            int set = 0;
            for (int thing = 0; thing < things; thing++) {
                if (((sits >> by[thing]) & (sits >> to[thing]) & 1) != 0) {
                    set |= 1 << thing;
                }
            }
            return set;
        }

        /** To whom the things of a set are that are by one of the speakers. */
        int listenersOf(int speakers, int set) {
            int listeners = 0;
            for (int thing = 0; thing < things; thing++) {
                if (((set >> thing) & (speakers >> by[thing]) & 1) != 0) {
                    listeners |= 1 << to[thing];
                }
            }
            return listeners;
        }
    }

    /** The tape, and the reading of it into a store. */
    static final class Reader {
        static final int END = 0;
        static final int BROKEN = 1;
        static final int NUMBER = 2;
        static final int NAME = 3;
        static final int FIRST_WORD = 4;
        static final int WORD_PERSON = 4;
        static final int WORD_SACK = 5;
        static final int WORD_THING = 6;
        static final int WORD_SAID = 7;
        static final int WORD_SNEEZE = 8;
        static final int WORD_DRAW = 9;
        static final int WORD_BY = 10;
        static final int WORD_TO = 11;
        static final int WORD_IN = 12;
        static final int WORD_OR = 13;
        static final int WORD_AND = 14;
        static final int WORD_NOT = 15;
        static final int WORD_HOT = 16;
        static final int WORD_SHY = 17;
        static final int WORD_GUESTS = 18;
        static final int WORD_GROUND = 19;
        static final int WORD_HEAT = 20;
        static final int WORD_COURSE = 21;
        static final int WORD_COUNT = 18;
        /** In the order of the kinds above; a sign's kind is its own byte, which is greater. */
        static final String WORDS = "person sack thing said sneeze draw by to in or and not hot shy guests ground heat course ";
        static final String SIGNS = ";()<>=+-*/%";
        /** In a formula's code a number stands above all kinds. */
        static final int NUMBER_CODE = 128;

        static final int LONGEST_WORD = 8;
        /** A word is one number, a byte a letter: eight fill a long. */
        static final int LETTER_BASE = 256;
        static final int LONGEST_NUMBER = 4;
        static final int MOST_UNITS = 60;
        static final int MOST_UNITS_IN_ONE = 30;
        static final int MOST_DEPTH = 7;

        int length;
        int fault;
        int faultPlace;
        Told target;
        private final int[] text;
        private final long[] words;
        private int at;
        private int kind;
        private int place;
        private int number;
        private long name;

        Reader() {
            faultPlace = NONE;
            target = new Told();
            text = new int[MOST_BYTES];
            words = new long[WORD_COUNT];
            int word = 0;
            for (int i = 0; i < WORDS.length() && word < WORD_COUNT; i++) {
                if (WORDS.charAt(i) == ' ') {
                    word++;
                } else {
                    words[word] = words[word] * LETTER_BASE + WORDS.charAt(i);
                }
            }
        }

        void addNumber(int bytes) {
            for (int shift = 24; shift >= 0 && length < MOST_BYTES; shift -= 8) {
                text[length] = (bytes >> shift) & 255;
                length++;
            }
        }

        /** True if there was no fault: then the target is as the tape tells. */
        boolean readAll() {
            target.clear();
            fault = 0;
            faultPlace = NONE;
            at = 0;
            step();
            for (int i = 0; i <= MOST_BYTES && fault == 0 && kind != END; i++) {
                readLine();
            }
            return fault == 0;
        }

        // -- tokens

        private void step() {
            while (at < length && at < MOST_BYTES && (text[at] == ' ' || text[at] == '\n')) {
                at++;
            }
            place = at;
            if (at >= length || at >= MOST_BYTES) {
                kind = END;
            } else if (text[at] >= 'a' && text[at] <= 'z') {
                stepWord();
            } else if (text[at] >= '0' && text[at] <= '9') {
                stepNumber();
            } else if (SIGNS.indexOf((char) text[at]) >= 0) {
                kind = text[at];
                at++;
            } else {
                kind = BROKEN;
            }
        }

        private void stepWord() {
            name = 0;
            while (at < length && at < MOST_BYTES && text[at] >= 'a' && text[at] <= 'z') {
                // It may wrap in a word that is too long, which is broken whatever its number is.
                name = name * LETTER_BASE + text[at];
                at++;
            }
            kind = at - place > LONGEST_WORD ? BROKEN : NAME;
            for (int i = 0; i < WORD_COUNT && kind == NAME; i++) {
                if (words[i] == name) {
                    kind = FIRST_WORD + i;
                }
            }
        }

        private void stepNumber() {
            number = 0;
            while (at < length && at < MOST_BYTES && text[at] >= '0' && text[at] <= '9') {
                number = number * 10 + (text[at] - '0');
                at++;
            }
            boolean letterBehind = at < length && at < MOST_BYTES && text[at] >= 'a' && text[at] <= 'z';
            kind = letterBehind || at - place > LONGEST_NUMBER ? BROKEN : NUMBER;
        }

        // -- faults

        /** The tokens are gone through in order, so the first fault is the one to tell. */
        private void fail(int code) {
            if (fault == 0) {
                fault = code;
                faultPlace = place;
            }
        }

        private void refuse() {
            fail(kind == BROKEN ? 1 : 2);
        }

        // -- lines

        private void readLine() {
            switch (kind) {
                case WORD_PERSON:
                    readPerson();
                    break;
                case WORD_SACK:
                    readSack();
                    break;
                case WORD_THING:
                    readThing();
                    break;
                case WORD_SAID:
                    readFormula();
                    break;
                case WORD_SNEEZE:
                    readSneeze();
                    break;
                case WORD_DRAW:
                    readDraw();
                    break;
                default:
                    refuse();
                    break;
            }
            take(';');
        }

        private void readPerson() {
            int person = target.people;
            if (person >= MOST_PEOPLE) {
                refuse();
                return;
            }
            step();
            takeNewName(target.personNames, person);
            target.shy[person] = 0;
            if (fault == 0 && kind == WORD_SHY) {
                step();
                target.shy[person] = takeNumber(0, MOST_SHY);
            }
            target.people++;
        }

        private void readSack() {
            if (target.sacks >= MOST_SACKS) {
                refuse();
                return;
            }
            step();
            takeNewName(target.sackNames, target.sacks);
            target.sacks++;
        }

        private void readThing() {
            int thing = target.things;
            if (thing >= MOST_THINGS) {
                refuse();
                return;
            }
            step();
            takeNewName(target.thingNames, thing);
            take(WORD_BY);
            target.by[thing] = takeKnownName(target.personNames, target.people, NONE);
            take(WORD_TO);
            target.to[thing] = takeKnownName(target.personNames, target.people, target.by[thing]);
            take(WORD_HOT);
            target.hot[thing] = takeNumber(1, 9);
            target.in[thing] = NONE;
            if (fault == 0 && kind == WORD_IN) {
                step();
                target.in[thing] = takeKnownName(target.sackNames, target.sacks, NONE);
            }
            target.things++;
        }

        private void readFormula() {
            if (target.hasFormula) {
                refuse();
                return;
            }
            step();
            target.hasFormula = true;
            target.codeLength = 0;
            readEither(0);
        }

        private void readSneeze() {
            if (target.hasSneeze) {
                refuse();
                return;
            }
            step();
            target.hasSneeze = true;
            target.sneeze = takeNumber(0, 100);
        }

        private void readDraw() {
            if (target.hasDraw) {
                refuse();
                return;
            }
            step();
            target.hasDraw = true;
            target.draw = takeNumber(0, 999);
        }

        // -- parts of lines; behind a fault they do nothing

        private void take(int wanted) {
            if (fault != 0) {
                return;
            }
            if (kind == wanted) {
                step();
            } else {
                refuse();
            }
        }

        private int takeNumber(int least, int most) {
            if (fault != 0) {
                return least;
            }
            if (kind != NUMBER) {
                refuse();
                return least;
            }
            if (number < least || number > most) {
                fail(4);
                return least;
            }
            int taken = number;
            step();
            return taken;
        }

        private void takeNewName(long[] names, int count) {
            if (fault != 0) {
                return;
            }
            if (kind != NAME || count >= names.length) {
                refuse();
            } else if (indexOfName(names, count) != NONE) {
                fail(3);
            } else {
                names[count] = name;
                step();
            }
        }

        private int takeKnownName(long[] names, int count, int except) {
            if (fault != 0) {
                return 0;
            }
            if (kind != NAME) {
                refuse();
                return 0;
            }
            int index = indexOfName(names, count);
            if (index == NONE) {
                fail(5);
                return 0;
            }
            if (index == except) {
                fail(3);
                return 0;
            }
            step();
            return index;
        }

        private int indexOfName(long[] names, int count) {
            for (int i = 0; i < count && i < names.length; i++) {
                if (names[i] == name) {
                    return i;
                }
            }
            return NONE;
        }

        // -- formulas: depth is within how many ( e ) and ones behind not this one is

        private void readEither(int depth) {
            readBoth(depth);
            for (int i = 0; i < MOST_UNITS && fault == 0 && kind == WORD_OR; i++) {
                step();
                readBoth(depth);
                write(WORD_OR);
            }
        }

        private void readBoth(int depth) {
            readOne(depth);
            for (int i = 0; i < MOST_UNITS && fault == 0 && kind == WORD_AND; i++) {
                step();
                readOne(depth);
                write(WORD_AND);
            }
        }

        private void readOne(int depth) {
            if (fault == 0 && kind == WORD_NOT) {
                if (depth >= MOST_DEPTH) {
                    refuse();
                    return;
                }
                step();
                readOne(depth + 1);
                write(WORD_NOT);
                return;
            }
            readSum(depth);
            if (fault == 0 && (kind == '<' || kind == '>' || kind == '=')) {
                int relation = kind;
                step();
                readSum(depth);
                write(relation);
            }
        }

        private void readSum(int depth) {
            readTerm(depth);
            for (int i = 0; i < MOST_UNITS && fault == 0 && (kind == '+' || kind == '-'); i++) {
                int sign = kind;
                step();
                readTerm(depth);
                write(sign);
            }
        }

        private void readTerm(int depth) {
            readUnit(depth);
            for (int i = 0; i < MOST_UNITS && fault == 0 && (kind == '*' || kind == '/' || kind == '%'); i++) {
                int sign = kind;
                step();
                readUnit(depth);
                write(sign);
            }
        }

        private void readUnit(int depth) {
            if (fault != 0) {
                return;
            }
            // There is one e in a store and all units are within it, so the lesser limit is met first.
            if (target.units >= MOST_UNITS || target.units >= MOST_UNITS_IN_ONE) {
                refuse();
                return;
            }
            target.units++;
            if (kind == NUMBER) {
                write(NUMBER_CODE + number);
                step();
            } else if (kind >= WORD_HOT && kind <= WORD_COURSE) {
                write(kind);
                step();
            } else if (kind == '(' && depth < MOST_DEPTH) {
                step();
                readEither(depth + 1);
                take(')');
            } else {
                refuse();
            }
        }

        private void write(int code) {
            if (fault == 0 && target.codeLength < Told.MOST_CODE) {
                target.code[target.codeLength] = code;
                target.codeLength++;
            }
        }
    }

    /** What acts change. */
    static final class State {
        /** Sits, said, course, seed, where each thing lies, how often each sack was ground. */
        static final int CELLS = 4 + MOST_THINGS + MOST_SACKS;

        int sits;
        int said;
        int course;
        int seed;
        final int[] where = new int[MOST_THINGS];
        final int[] ground = new int[MOST_SACKS];

        void begin(Told told) {
            sits = 0;
            said = 0;
            course = 0;
            seed = told.draw;
            for (int thing = 0; thing < MOST_THINGS; thing++) {
                where[thing] = thing < told.things ? told.in[thing] : NONE;
            }
            for (int sack = 0; sack < MOST_SACKS; sack++) {
                ground[sack] = 0;
            }
        }

        void copyFrom(State other) {
            sits = other.sits;
            said = other.said;
            course = other.course;
            seed = other.seed;
            System.arraycopy(other.where, 0, where, 0, MOST_THINGS);
            System.arraycopy(other.ground, 0, ground, 0, MOST_SACKS);
        }

        void saveTo(int[] rows, int row) {
            int from = row * CELLS;
            if (from < 0 || from + CELLS > rows.length) {
                return;
            }
            rows[from] = sits;
            rows[from + 1] = said;
            rows[from + 2] = course;
            rows[from + 3] = seed;
            System.arraycopy(where, 0, rows, from + 4, MOST_THINGS);
            System.arraycopy(ground, 0, rows, from + 4 + MOST_THINGS, MOST_SACKS);
        }

        void loadFrom(int[] rows, int row) {
            int from = row * CELLS;
            if (from < 0 || from + CELLS > rows.length) {
                return;
            }
            sits = rows[from];
            said = rows[from + 1];
            course = rows[from + 2];
            seed = rows[from + 3];
            System.arraycopy(rows, from + 4, where, 0, MOST_THINGS);
            System.arraycopy(rows, from + 4 + MOST_THINGS, ground, 0, MOST_SACKS);
        }

        int kept(Told told) {
            return told.allThings() & ~said;
        }

        int keptIn(Told told, int sack) {
            int set = 0;
            for (int thing = 0; thing < told.things; thing++) {
                if (where[thing] == sack) {
                    set |= 1 << thing;
                }
            }
            return set & ~said;
        }
    }

    /** Grinding: which things a sack lets out. */
    static final class Mill {
        /** No formula has more units than this. */
        static final int MOST_STACK = 64;

        private static final int HOT = 0;
        private static final int SHY = 1;
        private static final int GUESTS = 2;
        private static final int GROUND = 3;
        private static final int HEAT = 4;
        private static final int COURSE = 5;

        /** In the order of the reader's words from hot on. */
        private final int[] inputs = new int[6];
        private final int[] stack = new int[MOST_STACK];
        private final int[] passingBySize = new int[MOST_PEOPLE + 1];

        int letOut(Told told, State state, int sack) {
            return passing(told, state, sack, Integer.bitCount(state.sits), told.thingsAmong(state.sits));
        }

        /** All sacks ground once each: none changes what another one lets out. */
        int letOutOfAll(Told told, State state) {
            int out = 0;
            for (int sack = 0; sack < told.sacks; sack++) {
                out |= letOut(told, state, sack);
            }
            return out;
        }

        /** Grinds: the state is changed. */
        int turn(Told told, State state, int sack) {
            if (sack < 0 || sack >= told.sacks) {
                return 0;
            }
            int out = letOut(told, state, sack);
            state.said |= out;
            state.ground[sack] = Math.min(state.ground[sack] + 1, MOST_GROUND);
            return out;
        }

        /** For letOutAt: what passes in a sack by how many sit, whoever they are. */
        void passAtAllSizes(Told told, State state, int sack) {
            for (int guests = 0; guests <= MOST_PEOPLE; guests++) {
                boolean canBe = guests >= 2 && guests <= told.people;
                passingBySize[guests] = canBe ? passing(told, state, sack, guests, told.allThings()) : 0;
            }
        }

        int letOutAt(Told told, int sits) {
            return passingBySize[Math.min(Integer.bitCount(sits), MOST_PEOPLE)] & told.thingsAmong(sits);
        }

        /** Kept things in a sack, of those among some, for which the formula is not 0. */
        int passing(Told told, State state, int sack, int guests, int among) {
            int candidates = state.keptIn(told, sack) & among;
            if (candidates == 0) {
                return 0;
            }
            setUp(told, state, sack, guests);
            int set = 0;
            for (int thing = 0; thing < told.things; thing++) {
                if (((candidates >> thing) & 1) != 0 && passes(told, thing, told.shy[told.by[thing]])) {
                    set |= 1 << thing;
                }
            }
            return set;
        }

        void setUp(Told told, State state, int sack, int guests) {
            inputs[GUESTS] = guests;
            inputs[GROUND] = sack >= 0 && sack < MOST_SACKS ? state.ground[sack] : 0;
            inputs[HEAT] = told.heatOf(state.keptIn(told, sack));
            inputs[COURSE] = state.course;
        }

        /** Whether the formula is not 0, in the sack that was set up. */
        boolean passes(Told told, int thing, int shy) {
            inputs[HOT] = told.hot[thing];
            inputs[SHY] = shy;
            int height = 0;
            for (int i = 0; i < told.codeLength && i < Told.MOST_CODE; i++) {
                int code = told.code[i];
                if (isOperand(code)) {
                    if (height < MOST_STACK) {
                        stack[height] = operand(code);
                        height++;
                    }
                } else if (code == Reader.WORD_NOT) {
                    if (height > 0) {
                        stack[height - 1] = stack[height - 1] == 0 ? 1 : 0;
                    }
                } else if (height > 1) {
                    height--;
                    stack[height - 1] = joined(code, stack[height - 1], stack[height]);
                }
            }
            return height > 0 && stack[height - 1] != 0;
        }

        private static boolean isOperand(int code) {
            return code >= Reader.NUMBER_CODE || (code >= Reader.WORD_HOT && code <= Reader.WORD_COURSE);
        }

        private int operand(int code) {
            return code >= Reader.NUMBER_CODE ? code - Reader.NUMBER_CODE : inputs[code - Reader.WORD_HOT];
        }

        private static int joined(int code, int left, int right) {
            switch (code) {
                case Reader.WORD_OR:
                    return (left != 0 || right != 0) ? 1 : 0;
                case Reader.WORD_AND:
                    return (left != 0 && right != 0) ? 1 : 0;
                case '<':
                    return left < right ? 1 : 0;
                case '>':
                    return left > right ? 1 : 0;
                case '=':
                    return left == right ? 1 : 0;
                case '+':
                    return left + right;
                case '-':
                    return left - right;
                case '*':
                    return left * right;
                case '/':
                    return right == 0 ? 0 : left / right;
                case '%':
                    return right == 0 ? 0 : left % right;
                default:
                    return 0;
            }
        }
    }

    /** The acts that can be undone and redone: what was behind each of them, in a ring. */
    static final class Acts {
        static final int MOST_ACTS = 40;
        /** One more, for what was ahead of the oldest act. */
        static final int ROWS = MOST_ACTS + 1;

        int undoable;
        int redoable;
        private int row;
        private final int[] rows = new int[ROWS * State.CELLS];

        void forget(State state) {
            undoable = 0;
            redoable = 0;
            row = 0;
            state.saveTo(rows, row);
        }

        void keep(State state) {
            row = (row + 1) % ROWS;
            state.saveTo(rows, row);
            undoable = Math.min(undoable + 1, MOST_ACTS);
            redoable = 0;
        }

        boolean stepBack(State state) {
            if (undoable == 0) {
                return false;
            }
            row = (row + ROWS - 1) % ROWS;
            state.loadFrom(rows, row);
            undoable--;
            redoable++;
            return true;
        }

        boolean stepOn(State state) {
            if (redoable == 0) {
                return false;
            }
            row = (row + 1) % ROWS;
            state.loadFrom(rows, row);
            redoable--;
            undoable++;
            return true;
        }
    }

    /** Images of the state. */
    static final class Boxes {
        private final int[] rows = new int[BOX_COUNT * State.CELLS];
        private final boolean[] filled = new boolean[BOX_COUNT];

        void forget() {
            for (int box = 0; box < BOX_COUNT; box++) {
                filled[box] = false;
            }
        }

        boolean fill(int box, State state) {
            if (box < 0 || box >= BOX_COUNT) {
                return false;
            }
            state.saveTo(rows, box);
            filled[box] = true;
            return true;
        }

        boolean restore(int box, State state) {
            if (box < 0 || box >= BOX_COUNT || !filled[box]) {
                return false;
            }
            state.loadFrom(rows, box);
            return true;
        }
    }

    /** The numbers that lie there, and the longest line of people, which is looked for where it will lie. */
    static final class Lying {
        int count;
        private final int[] numbers = new int[MOST_PEOPLE];
        private final int[] path = new int[MOST_PEOPLE];
        private final int[] listeners = new int[MOST_PEOPLE];
        private int people;

        void add(int number) {
            if (count < numbers.length) {
                numbers[count] = number;
                count++;
            }
        }

        int numberAt(int i) {
            return i >= 0 && i < count ? numbers[i] : NONE;
        }

        void layLongestLine(Told told, int kept) {
            count = 0;
            people = told.people;
            for (int person = 0; person < people; person++) {
                listeners[person] = told.listenersOf(1 << person, kept);
            }
            goFurther(0, 0);
        }

        /** Rows are met by numbers, so only a longer one takes the place of the one that lies there. */
        private void goFurther(int length, int used) {
            if (length > count) {
                System.arraycopy(path, 0, numbers, 0, length);
                count = length;
            }
            if (length >= people || length >= MOST_PEOPLE) {
                return;
            }
            int open = ~used & (length == 0 ? ~0 : listeners[path[length - 1]]);
            for (int person = 0; person < people; person++) {
                if (((open >> person) & 1) != 0) {
                    path[length] = person;
                    goFurther(length + 1, used | (1 << person));
                }
            }
        }
    }

    /** What was heard of the sacks in which the last two things lay. */
    static final class Hearsay {
        static final int MOST_HEARD = 30;
        static final int PLACES = MOST_SACKS + 1;
        static final int MOST_ROWS = PLACES * PLACES;
        static final int MOST_STEP = 1000;
        static final int MOST_TIME = 100000;

        int count;
        int time;
        private boolean isReckoned;
        private int rowCount;
        private final int[] sacks = new int[MOST_HEARD];
        private final int[] many = new int[MOST_HEARD];
        private final boolean[] is = new boolean[MOST_HEARD];
        private final int[] toldAt = new int[MOST_HEARD];
        private final int[] untoldAt = new int[MOST_HEARD];
        /** How many things each sack lets out, by row: these stay as long as the store does. */
        private final int[] outs = new int[MOST_ROWS * MOST_SACKS];
        private final boolean[] isLeft = new boolean[MOST_ROWS];
        private final int[] tally = new int[MOST_THINGS + 1];
        private final State scene = new State();

        /** The time goes on through all stores. */
        void forget() {
            count = 0;
            isReckoned = false;
        }

        int tell(int sack, int least, boolean wereSaid) {
            if (count >= MOST_HEARD) {
                return NONE;
            }
            sacks[count] = sack;
            many[count] = least;
            is[count] = wereSaid;
            toldAt[count] = time;
            untoldAt[count] = NONE;
            count++;
            return count - 1;
        }

        boolean takeBack(int number) {
            if (number < 0 || number >= count || untoldAt[number] != NONE) {
                return false;
            }
            untoldAt[number] = time;
            return true;
        }

        int goOn(int by) {
            if (by < 0 || by > MOST_STEP || time + by > MOST_TIME) {
                return NONE;
            }
            time += by;
            return time;
        }

        /** Finds the rows by which all that counts at k is so: how many. */
        int sift(Told told, Mill mill, int k) {
            if (told.things == 0) {
                return 0;
            }
            reckon(told, mill);
            int left = 0;
            for (int row = 0; row < rowCount; row++) {
                isLeft[row] = agrees(row, k);
                if (isLeft[row]) {
                    left++;
                }
            }
            return left;
        }

        /** All people are at the table, so every thing is among them. */
        private void reckon(Told told, Mill mill) {
            if (isReckoned) {
                return;
            }
            int places = told.sacks + 1;
            rowCount = told.things >= 2 ? places * places : places;
            scene.begin(told);
            for (int row = 0; row < rowCount; row++) {
                scene.where[told.things - 1] = placeIn(row, places, true);
                if (told.things >= 2) {
                    scene.where[told.things - 2] = placeIn(row, places, false);
                }
                for (int sack = 0; sack < told.sacks; sack++) {
                    int out = mill.passing(told, scene, sack, told.people, told.allThings());
                    outs[row * MOST_SACKS + sack] = Integer.bitCount(out);
                }
            }
            isReckoned = true;
        }

        private static int placeIn(int row, int places, boolean ofLast) {
            if (places < 1) {
                return NONE;
            }
            return (ofLast ? row % places : row / places) - 1;
        }

        private boolean agrees(int row, int k) {
            for (int i = 0; i < count; i++) {
                boolean untold = untoldAt[i] != NONE && untoldAt[i] <= k;
                boolean counts = toldAt[i] <= k && !untold;
                boolean wereSaid = outs[row * MOST_SACKS + sacks[i]] >= many[i];
                if (counts && wereSaid != is[i]) {
                    return false;
                }
            }
            return true;
        }

        /** Of the rows last sifted: where the one thing lies in all of them. */
        int sameInAll(Told told, boolean ofLast) {
            boolean isFirst = true;
            int same = NONE;
            for (int row = 0; row < rowCount; row++) {
                if (isLeft[row]) {
                    int there = placeIn(row, told.sacks + 1, ofLast);
                    if (!isFirst && there != same) {
                        return REFUSED;
                    }
                    same = there;
                    isFirst = false;
                }
            }
            return same;
        }

        /** Of the rows last sifted: how many agree at the most on how many a sack lets out. */
        int mostLeftBy(int sack) {
            for (int out = 0; out <= MOST_THINGS; out++) {
                tally[out] = 0;
            }
            int most = 0;
            for (int row = 0; row < rowCount; row++) {
                if (isLeft[row]) {
                    int out = outs[row * MOST_SACKS + sack];
                    tally[out]++;
                    most = Math.max(most, tally[out]);
                }
            }
            return most;
        }
    }
}
