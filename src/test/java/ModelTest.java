import java.util.Random;

/** All promises on random stores and runs of calls, held against the naive model; the same runs every time. */
public final class ModelTest {
    private static final Check CHECK = new Check("ModelTest");
    private static final int RUNS = 400;
    private static final int CALLS = 300;
    private static final int[] EDGES = {-3, -2, 1000, Integer.MIN_VALUE, Integer.MAX_VALUE};

    private final Random random;
    private final PepperTables x = new PepperTables();
    private final Naive y = new Naive();
    private final int run;

    private ModelTest(int run) {
        this.run = run;
        this.random = new Random(run * 7919L + 17);
    }

    public static void main(String[] args) {
        int runs = args.length > 0 ? Integer.parseInt(args[0]) : RUNS;
        for (int run = 0; run < runs && !CHECK.hasWrong(); run++) {
            new ModelTest(run).play();
        }
        CHECK.close();
    }

    private void due(String call, long got, long want) {
        CHECK.due("run " + run + ": " + call, got, want);
    }

    private void play() {
        load(StoreMaker.store(random));
        for (int i = 0; i < CALLS && !CHECK.hasWrong(); i++) {
            if (random.nextInt(60) == 0) {
                String text = StoreMaker.store(random);
                load(random.nextInt(2) == 0 ? text : StoreMaker.broken(random, text));
            } else {
                callOne();
            }
        }
    }

    private void load(String text) {
        due("end", x.end(0), y.end(0));
        StringBuilder padded = new StringBuilder(text);
        while (padded.length() % 20 != 0) {
            padded.append(' ');
        }
        for (int i = 0; i < padded.length(); i += 20) {
            int[] n = new int[5];
            for (int j = 0; j < 20; j++) {
                n[j / 4] = n[j / 4] << 8 | padded.charAt(i + j);
            }
            due("feed", x.feed(n[0], n[1], n[2], n[3], n[4]), y.feed(n[0], n[1], n[2], n[3], n[4]));
        }
        due("end", x.end(text.length()), y.end(text.length()));
        due("store of '" + text + "'", x.store(), y.store());
        due("fault(0) of '" + text + "'", x.fault(0), y.fault(0));
        due("fault(1) of '" + text + "'", x.fault(1), y.fault(1));
        seeAll("behind '" + text + "'");
    }

    private void seeAll(String when) {
        for (int i = -1; i <= 16; i++) {
            due("about(" + i + ") " + when, x.about(i), y.about(i));
        }
        for (int i = 0; i < 7; i++) {
            due("lies(" + i + ") " + when, x.lies(i), y.lies(i));
        }
        for (int i = 0; i < 10; i++) {
            due("thing(" + i + ", 3) " + when, x.thing(i, 3), y.thing(i, 3));
            due("sack(" + i + ", 2) " + when, x.sack(i, 2), y.sack(i, 2));
        }
    }

    /** Mostly a number that can be, at times one that can't. */
    private int number(int count) {
        if (random.nextInt(25) == 0) {
            return EDGES[random.nextInt(EDGES.length)];
        }
        return random.nextInt(12) == 0 ? random.nextInt(count + 3) - 1 : random.nextInt(Math.max(1, count));
    }

    private int person() {
        return number(y.about(1));
    }

    private int thing() {
        return number(y.about(0));
    }

    private int sack() {
        return number(y.about(2));
    }

    private int time() {
        return random.nextInt(10) == 0 ? number(3) : random.nextInt(y.about(10) + 3) - 1;
    }

    private void callOne() {
        int kind = random.nextInt(14);
        if (kind < 4) {
            callAct();
        } else if (kind < 6) {
            callHeard();
        } else if (kind < 7) {
            callImage();
        } else {
            callQuestion();
        }
    }

    private void callAct() {
        int p = person();
        int t = thing();
        int s = sack();
        int to = random.nextInt(3) == 0 ? -1 : s;
        switch (random.nextInt(10)) {
            case 0, 1, 2 -> due("sit(" + p + ")", x.sit(p), y.sit(p));
            case 3 -> due("rise(" + p + ")", x.rise(p), y.rise(p));
            case 4, 5 -> due("grind(" + s + ")", x.grind(s), y.grind(s));
            case 6 -> due("pour(" + t + ", " + to + ")", x.pour(t, to), y.pour(t, to));
            case 7 -> due("course()", x.course(), y.course());
            case 8 -> due("undo()", x.undo() ? 1 : 0, y.undo() ? 1 : 0);
            default -> due("redo()", x.redo() ? 1 : 0, y.redo() ? 1 : 0);
        }
        seeAll("behind an act");
    }

    private void callHeard() {
        int k = time();
        int s = sack();
        int many = random.nextInt(3) == 0 ? number(11) : random.nextInt(3);
        boolean is = random.nextBoolean();
        int h = number(y.about(9));
        int by = random.nextInt(4) == 0 ? number(1001) : random.nextInt(4);
        int what = number(2);
        switch (random.nextInt(9)) {
            case 0, 1 -> due("heard(" + s + ", " + many + ", " + is + ")", x.heard(s, many, is), y.heard(s, many, is));
            case 2 -> due("untell(" + h + ")", x.untell(h) ? 1 : 0, y.untell(h) ? 1 : 0);
            case 3, 4 -> due("later(" + by + ")", x.later(by), y.later(by));
            case 5 -> due("rows(" + k + ")", x.rows(k), y.rows(k));
            case 6 -> due("sure(" + what + ", " + k + ")", x.sure(what, k), y.sure(what, k));
            default -> due("ask(" + what + ", " + k + ")", x.ask(what, k), y.ask(what, k));
        }
    }

    private void callImage() {
        int box = number(3);
        if (random.nextInt(3) > 0) {
            due("image(" + box + ")", x.image(box), y.image(box));
        } else {
            due("back(" + box + ")", x.back(box), y.back(box));
            seeAll("behind back");
        }
    }

    private void callQuestion() {
        int p = person();
        int o = person();
        int t = thing();
        int s = sack();
        int s2 = sack();
        int what = number(2);
        int n = number(5);
        int which = number(3);
        int five = number(5);
        int often = random.nextInt(5) == 0 ? number(100) : random.nextInt(4);
        switch (random.nextInt(38)) {
            case 0 -> due("person(" + p + ", " + five + ")", x.person(p, five), y.person(p, five));
            case 1 -> due("thing(" + t + ", " + five + ")", x.thing(t, five), y.thing(t, five));
            case 2 -> due("sack(" + s + ", " + which + ")", x.sack(s, which), y.sack(s, which));
            case 3 -> due("would(" + s + ")", x.would(s), y.would(s));
            case 4, 5 -> askTable(s, what);
            case 6, 7 -> due("round(" + n + ", " + what + ")", x.round(n, what), y.round(n, what));
            case 8 -> due("mute()", x.mute(), y.mute());
            case 9 -> due("fewest(" + which + ")", x.fewest(which), y.fewest(which));
            case 10 -> due("send(" + s + ", " + what + ")", x.send(s, what), y.send(s, what));
            case 11 -> due("hide(" + t + ", " + what + ")", x.hide(t, what), y.hide(t, what));
            case 12 -> due("pairs()", x.pairs(), y.pairs());
            case 13 -> due("gain(" + p + ")", x.gain(p), y.gain(p));
            case 14, 15 -> due("feast(" + p + ", " + o + ")", x.feast(p, o), y.feast(p, o));
            case 16 -> due("shyest(" + t + ")", x.shyest(t), y.shyest(t));
            case 17 -> due("line()", x.line(), y.line());
            case 18 -> due("invite(" + what + ")", x.invite(what), y.invite(what));
            case 19 -> due("blend(" + s + ", " + s2 + ")", x.blend(s, s2), y.blend(s, s2));
            case 20, 21 -> due("exchange(" + which + ")", x.exchange(which), y.exchange(which));
            case 22 -> due("after(" + t + ")", x.after(t), y.after(t));
            case 23 -> due("rumour(" + p + ", " + o + ")", x.rumour(p, o), y.rumour(p, o));
            case 24 -> due("keeps(" + p + ", " + o + ")", x.keeps(p, o), y.keeps(p, o));
            case 25 -> due("dupe()", x.dupe(), y.dupe());
            case 26 -> due("spark(" + s + ")", x.spark(s), y.spark(s));
            case 27 -> due("spine(" + s + ")", x.spine(s), y.spine(s));
            case 28 -> due("idle()", x.idle(), y.idle());
            case 29 -> due("storm()", x.storm(), y.storm());
            case 30 -> due("hottest()", x.hottest(), y.hottest());
            case 31 -> due("closest()", x.closest(), y.closest());
            case 32 -> due("rank()", x.rank(), y.rank());
            case 33 -> due("near()", x.near(), y.near());
            case 34 -> due("scandal()", x.scandal(), y.scandal());
            case 35 -> due("law(" + s + ", " + often + ")", x.law(s, often), y.law(s, often));
            case 36 -> due("next()", x.next(), y.next());
            default -> due("odds(" + n + ", " + what + ")", x.odds(n, what), y.odds(n, what));
        }
        seeAll("behind a question");
    }

    private void askTable(int s, int what) {
        int things = switch (random.nextInt(4)) {
            case 0 -> number(1 << y.about(0));
            case 1 -> Math.max(0, y.would(s));
            default -> random.nextInt(1 << y.about(0)) & random.nextInt(1 << y.about(0)) & Math.max(0, y.sack(s, 1));
        };
        due("table(" + things + ", " + s + ", " + what + ")", x.table(things, s, what), y.table(things, s, what));
    }
}
