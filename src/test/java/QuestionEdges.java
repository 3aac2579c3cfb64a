/** Edges of the questions that are asked of what is now: promises 17 to 47. */
final class QuestionEdges {
    /** Nobody is shy but d, who is shy 9: nothing by him is let out. */
    private static final String PEOPLE = "person a;person b;person c;person d shy 9;";
    /** r holds t and u, s holds v and w, x lies in none, q is empty. */
    private static final String FISH = PEOPLE + "sack r;sack s;sack q;thing t by a to b hot 5 in r;thing u by d to a hot 3 in r;"
            + "thing v by b to c hot 8 in s;thing w by c to a hot 8 in s;thing x by a to c hot 2;";
    private static final int[] WRONG = {-2, -1, 10, 31, 32, 33, 64, Integer.MIN_VALUE, Integer.MAX_VALUE};

    private final Edges e;

    private QuestionEdges(Edges edges) {
        e = edges;
    }

    static void play(Edges edges) {
        QuestionEdges t = new QuestionEdges(edges);
        t.nothingIsDone();
        t.byWhatIsNow();
        t.tables();
        t.rounds();
        t.mutes();
        t.pours();
        t.sends();
        t.hides();
        t.pairs();
        t.gains();
        t.feasts();
        t.shyests();
        t.lines();
        t.invites();
        t.blends();
        t.exchanges();
        t.afters();
        t.rumours();
        t.keeps();
        t.dupes();
        t.sparks();
        t.spines();
        t.idles();
        t.storms();
        t.hottest();
        t.closest();
        t.ranks();
        t.nears();
        t.scandals();
        t.laws();
        t.nexts();
        t.odds();
        t.lying();
        t.full();
    }

    private void nothingIsDone() {
        e.terms("(By what is now; nothing is done; no sneezes, if not told otherwise.)");
        PepperTables x = Edges.of(FISH + "sneeze 100;", 0, 1, 2);
        x.grind(0);
        x.undo();
        e.doesNothing("table", x, 2, () -> x.table(1, 0, 0));
        e.doesNothing("mute", x, 18, x::mute);
        e.doesNothing("fewest", x, 2, () -> x.fewest(0));
        e.doesNothing("send", x, 1, () -> x.send(1, 0));
        e.doesNothing("hide", x, 2, () -> x.hide(1, 0));
        e.doesNothing("pairs", x, 0, x::pairs);
        e.doesNothing("gain", x, 8, () -> x.gain(0));
        e.doesNothing("shyest", x, 4, () -> x.shyest(0));
        e.doesNothing("invite", x, 3, () -> x.invite(0));
        e.doesNothing("blend", x, 3, () -> x.blend(0, 1));
        e.doesNothing("exchange", x, -1, () -> x.exchange(0));
        e.doesNothing("after", x, 1, () -> x.after(0));
        e.doesNothing("spark", x, 0, () -> x.spark(0));
        e.doesNothing("spine", x, 3, () -> x.spine(0));
        e.doesNothing("storm", x, 21, x::storm);
        e.doesNothing("law", x, 1, () -> x.law(0, 99));
        e.doesNothing("next", x, 2, x::next);
        e.due("round", x.round(4, 0), 3);
        e.due("feast", x.feast(0, 1), 1);
        e.due("line", x.line(), 4);
        e.due("rank", x.rank(), 4);
        e.due("what is said", x.about(4), 0);
        e.due("who sits", x.about(3), 7);
        e.due("ground", x.sack(0, 2), 0);
        e.due("redo", x.redo(), true);
        e.due("said by that", x.about(4), 1);
    }

    private void byWhatIsNow() {
        e.terms("(By what is now;");
        PepperTables x = Edges.of(PEOPLE + "sack r;sack s;thing t by a to b hot 1 in r;thing u by b to c hot 2 in s;thing v by b to a hot 3;"
                + "said course = 3 and hot > shy;", 0, 1);
        for (int course = 0; course < 5; course++) {
            int is = course == 3 ? 1 : 0;
            e.due("table", x.table(1, 0, 0), is == 1 ? 2 : -1);
            e.due("round", x.round(2, 0), is);
            e.due("mute", x.mute(), is == 1 ? 4 : 7);
            e.due("fewest", x.fewest(2), is);
            e.due("send", x.send(0, 1), is);
            e.due("hide", x.hide(0, 0), is == 1 ? -1 : 0);
            e.due("gain", x.gain(1), is);
            e.due("feast", x.feast(0, 1), is == 1 ? 2 : 4);
            e.due("shyest", x.shyest(0), is - 1);
            e.due("invite", x.invite(1), 2 * is);
            e.due("blend", x.blend(1, 0), is);
            e.due("after", x.after(0), is == 1 ? 1 : -1);
            e.due("spark", x.spark(0), is - 1);
            e.due("spine", x.spine(0), is == 1 ? 3 : -1);
            e.due("idle", x.idle(), 3 - is);
            e.due("storm", x.storm(), is);
            e.due("law", x.law(0, 7), is);
            x.course();
        }
    }

    private void tables() {
        e.terms("TABLE for a set of THINGS and a SACK: the fewest PEOPLE who would have to SIT (just these) so that by GRINDING it"
                + " just these THINGS were SAID; of like ones the least set as bits.");
        PepperTables x = Edges.of(FISH, 3);
        e.due("t", x.table(1, 0, 1), 3);
        e.due("v", x.table(4, 1, 1), 6);
        e.due("w", x.table(8, 1, 1), 5);
        e.due("both", x.table(12, 1, 1), 7);
        x = Edges.of(Edges.lines("person #;", 6) + "sack s;thing t by e to b hot 1 in s;said guests = 4;");
        e.due("of like ones the least", x.table(1, 0, 1), 0b010111);
        e.due("how many", x.table(1, 0, 0), 4);
        x = Edges.of(Edges.lines("person #;", 6) + "sack s;thing t by e to b hot 1 in s;said guests = 6;");
        e.due("all", x.table(1, 0, 1), 63);
        e.promise(17, "TABLE (THINGS as bits) what 0: how many, 1: who, as bits; NONE if there is no such table, or one can't be.");
        PepperTables y = Edges.of(FISH, 0, 1);
        e.due("nothing: nobody", y.table(0, 0, 0), 0);
        e.due("nothing: nobody", y.table(0, 0, 1), 0);
        e.due("nothing of an empty sack", y.table(0, 2, 0), 0);
        e.due("never said", y.table(2, 0, 0), -1);
        e.due("in another sack", y.table(1, 1, 0), -1);
        e.due("in none", y.table(16, 1, 0), -1);
        e.due("no such thing", y.table(32, 0, 0), -1);
        e.due("one that is and one that is not", y.table(33, 0, 0), -1);
        e.due("no such sack", y.table(0, 3, 0), -1);
        e.due("another what", y.table(0, 0, 2), -1);
        for (int wrong : WRONG) {
            e.due("things " + wrong, y.table(wrong, 0, 0), -1);
            e.due("sack " + wrong, y.table(0, wrong, 0), -1);
            e.due("what " + wrong, y.table(0, 0, wrong), -1);
        }
        y.grind(0);
        e.due("said already", y.table(1, 0, 0), -1);
    }

    private void rounds() {
        e.terms("ROUND of n GRINDINGS at this table: the row of SACKS, one behind the other, by which most THINGS are SAID,"
                + " then these are hottest together; of like ones the first (by numbers).");
        PepperTables x = Edges.of(FISH, 0, 1, 2);
        e.due("most", x.round(1, 0), 2);
        e.lie(x, 1);
        e.due("all", x.round(2, 0), 3);
        e.lie(x, 0, 1);
        e.due("of like ones the first", x.round(3, 0), 3);
        e.lie(x, 0, 0, 1);
        PepperTables y = Edges.of(PEOPLE + "sack r;sack s;sack q;thing t by a to b hot 5 in r;thing u by a to b hot 6 in s;"
                + "thing v by a to b hot 6 in q;", 0, 1);
        e.due("the hotter one", y.round(1, 1), 6);
        e.lie(y, 1);
        PepperTables one = Edges.of(PEOPLE + "sack r;thing t by a to b hot 5 in r;thing u by a to b hot 6 in r;said hot = 5 + ground;", 0, 1);
        e.due("one sack twice", one.round(2, 1), 11);
        e.lie(one, 0, 0);
        e.promise(18, "ROUND (n 0 .. 4) what 0: how many, 1: how hot; NONE without SACKS, or if one can't be."
                + " SACKS lie there then, in order (behind NONE: nothing).");
        e.due("n 0: how many", x.round(0, 0), 0);
        e.lie(x);
        e.due("n 0: how hot", x.round(0, 1), 0);
        e.due("n 4: how hot", x.round(4, 1), 21);
        e.lie(x, 0, 0, 0, 1);
        e.due("n 5", x.round(5, 0), -1);
        e.lie(x);
        for (int wrong : WRONG) {
            x.rank();
            e.due("n " + wrong, x.round(wrong, 0), -1);
            e.lie(x);
            x.rank();
            e.due("what " + wrong, x.round(1, wrong), -1);
            e.lie(x);
        }
        x.rank();
        e.due("what 2", x.round(1, 2), -1);
        e.lie(x);
        PepperTables none = Edges.of(PEOPLE);
        none.rank();
        e.due("without sacks", none.round(0, 0), -1);
        e.lie(none);
        e.due("without sacks", none.round(1, 1), -1);
    }

    private void mutes() {
        e.terms("MUTE: KEPT THINGS that by GRINDING their SACK at once now are not SAID at any table (whoever SITS);"
                + " those in none, too.");
        PepperTables x = Edges.of(PEOPLE + "sack r;thing t by a to b hot 1 in r;thing u by a to b hot 2 in r;thing v by a to b hot 3 in r;"
                + "thing w by a to b hot 4;said hot = 1 and guests = 2 or hot = 2 and guests = 4 or hot = 3 and ground or hot = 4;");
        e.due("v, and w in none", x.mute(), 12);
        x.grind(0);
        e.due("w in none", x.mute(), 8);
        x.pour(3, 0);
        e.due("none", x.mute(), 0);
        e.promise(19, "MUTE, as bits.");
        e.due("without things", Edges.of(PEOPLE + "sack s;").mute(), 0);
        e.due("without people", Edges.of("").mute(), 0);
        PepperTables y = Edges.of("person a;person b;sack s;" + Edges.lines("thing # by a to b hot 1 in s;", 10) + "said 0;");
        e.due("all ten", y.mute(), 1023);
    }

    private void pours() {
        e.terms("POUR: the fewest SACKS to be GROUND now, each once, from the least number on, so that all are SAID that can be SAID so"
                + " by GRINDING all of them (from the least number on); of like ones the least set as bits.");
        PepperTables x = Edges.of(FISH, 0, 1, 2);
        e.due("how many", x.fewest(0), 2);
        e.due("which", x.fewest(1), 3);
        e.due("what", x.fewest(2), 13);
        e.promise(20, "POUR what 0: how many SACKS, 1: which, 2: what is SAID so, both as bits; NONE for another what.");
        PepperTables y = Edges.of(FISH, 1, 2);
        e.due("how many", y.fewest(0), 1);
        e.due("which", y.fewest(1), 2);
        e.due("what", y.fewest(2), 4);
        e.due("another what", y.fewest(3), -1);
        for (int wrong : WRONG) {
            e.due("what " + wrong, y.fewest(wrong), -1);
        }
        for (int what = 0; what < 3; what++) {
            e.due("nobody sits", Edges.of(FISH).fewest(what), 0);
            e.due("without sacks", Edges.of(PEOPLE).fewest(what), 0);
        }
    }

    private void sends() {
        e.terms("SEND: the fewest of those who SIT to be sent away now so that by GRINDING a SACK nothing is SAID;"
                + " of like ones the least set as bits.");
        PepperTables x = Edges.of(FISH, 0, 1, 2, 3);
        e.due("a or b", x.send(0, 1), 1);
        e.due("c", x.send(1, 1), 4);
        PepperTables y = Edges.of(PEOPLE + "sack r;thing t by a to b hot 1 in r;thing u by c to b hot 1 in r;said guests > 1;", 1, 2);
        e.due("a does not sit", y.send(0, 1), 2);
        y.sit(0);
        e.due("b", y.send(0, 1), 2);
        PepperTables z = Edges.of(PEOPLE + "sack r;thing t by a to b hot 1 in r;said guests = 2 or guests = 3;", 0, 1, 2);
        e.due("one of both", z.send(0, 1), 1);
        z = Edges.of(PEOPLE + "sack r;thing t by a to b hot 1 in r;said guests = 3;", 0, 1, 2);
        e.due("any one: the least", z.send(0, 1), 1);
        e.promise(21, "SEND what 0: how many, 1: who, as bits; NONE if one can't be.");
        e.due("nobody", x.send(2, 0), 0);
        e.due("nobody", x.send(2, 1), 0);
        e.due("how many", x.send(0, 0), 1);
        e.due("no such sack", x.send(3, 0), -1);
        e.due("another what", x.send(0, 2), -1);
        for (int wrong : WRONG) {
            e.due("sack " + wrong, x.send(wrong, 0), -1);
            e.due("what " + wrong, x.send(0, wrong), -1);
        }
        e.due("nobody sits", Edges.of(FISH).send(0, 0), 0);
    }

    private void hides() {
        e.terms("HIDE of a KEPT THING: the SACK in which it should lie so that it is not SAID by GRINDING that SACK now"
                + " (in the one it lies in, as it is), and the fewest others are; of like ones the first.");
        PepperTables x = Edges.of(PEOPLE + "sack r;sack s;sack q;thing t by a to b hot 1 in s;thing u by a to b hot 5 in r;"
                + "thing v by a to b hot 5 in s;thing w by a to b hot 5 in q;thing y by a to b hot 1;said hot > 1;", 0, 1);
        e.due("of like ones the first", x.hide(0, 0), 0);
        e.due("others", x.hide(0, 1), 1);
        x.pour(1, 1);
        e.due("the empty one", x.hide(0, 0), 0);
        e.due("none others", x.hide(0, 1), 0);
        e.due("one that lies in none", x.hide(4, 0), 0);
        // Where it lies its heat is counted once, elsewhere it comes to the others' heat.
        PepperTables y = Edges.of(PEOPLE + "sack r;sack s;thing t by a to b hot 4 in r;thing u by a to b hot 4 in s;said heat = 8 or heat < 4;",
                0, 1);
        e.due("as it is", y.hide(0, 0), 0);
        e.due("as it is", y.hide(1, 0), 1);
        e.promise(22, "HIDE what 0: the SACK, 1: how many others are SAID; NONE if there is none such, it is SAID, or one can't be.");
        PepperTables z = Edges.of(FISH, 0, 1, 2);
        e.due("no such sack", z.hide(0, 0), -1);
        e.due("no such sack", z.hide(0, 1), -1);
        e.due("u", z.hide(1, 0), 2);
        e.due("no such thing", z.hide(5, 0), -1);
        e.due("another what", z.hide(1, 2), -1);
        for (int wrong : WRONG) {
            e.due("thing " + wrong, z.hide(wrong, 0), -1);
            e.due("what " + wrong, z.hide(1, wrong), -1);
        }
        z.grind(0);
        z.rise(0);
        e.due("said", z.hide(0, 0), -1);
        e.due("without sacks", Edges.of(PEOPLE + "thing t by a to b hot 1;").hide(0, 0), -1);
    }

    private void pairs() {
        e.terms("PAIRS: two of whom each SAID something to the other one.");
        for (int way = 0; way < 4; way++) {
            PepperTables two = Edges.of("person a;person b;person c;sack r;sack s;thing t by a to b hot 1 in r;thing u by b to a hot 1 in s;"
                    + "thing v by c to a hot 1 in r;", 0, 1, 2);
            if (way % 2 == 1) {
                two.grind(0);
            }
            if (way > 1) {
                two.grind(1);
            }
            e.due("way " + way, two.pairs(), way == 3 ? 1 : 0);
        }
        e.promise(23, "How many PAIRS.");
        PepperTables x = Edges.of("person a;person b;person c;sack s;thing t by a to b hot 1 in s;thing u by b to a hot 1;"
                + "thing v by b to c hot 1 in s;thing w by c to b hot 1 in s;thing y by a to b hot 1 in s;", 0, 1, 2);
        e.due("nothing said", x.pairs(), 0);
        x.grind(0);
        e.due("b and c", x.pairs(), 1);
        x.pour(1, 0);
        x.grind(0);
        e.due("a and b, too", x.pairs(), 2);
        e.due("without people", Edges.of("").pairs(), 0);
    }

    private void gains() {
        e.terms("would be SAID, if he, too, SAT, and all SACKS were GROUND, from the least number on, each once.");
        PepperTables x = Edges.of(PEOPLE + "sack r;sack s;thing t by b to a hot 2 in r;thing u by b to a hot 3 in s;thing v by b to a hot 4;"
                + "thing w by c to a hot 5 in s;said ground = 0 and guests = 2;", 1);
        e.due("he would sit", x.gain(0), 5);
        x.sit(0);
        e.due("he sits", x.gain(0), 5);
        e.due("a third one", x.gain(2), 0);
        e.promise(24, "GAIN; NONE if there is none such.");
        e.due("none such", x.gain(4), -1);
        for (int wrong : WRONG) {
            e.due("gain(" + wrong + ")", x.gain(wrong), -1);
        }
        x.grind(0);
        x.rise(0);
        e.due("kept ones only", x.gain(0), 3);
        e.due("without things", Edges.of(PEOPLE).gain(3), 0);
    }

    private void feasts() {
        e.terms("at RESTS neither, the other one's staying so, would have more by the other choice.");
        PepperTables x = Edges.of("person a;person b;sack s;thing t by a to b hot 4 in s;thing u by b to a hot 4 in s;");
        e.due("all four: nobody has more", x.feast(0, 1), 4);
        e.lie(x, 0, 0);
        PepperTables y = Edges.of(PEOPLE + "sack s;thing t by c to a hot 4 in s;thing u by c to b hot 4 in s;", 2);
        e.due("both should sit", y.feast(0, 1), 1);
        e.lie(y, 1, 1);
        // Each of them sits now and would rather not; whether they sit now is of no weight.
        PepperTables up = Edges.of(PEOPLE + "sack s;thing t by b to a hot 4 in s;thing u by c to a hot 4 in s;", 0, 1, 2);
        e.due("neither should sit", up.feast(1, 2), 1);
        e.lie(up, 0, 0);
        e.due("neither should sit", up.feast(2, 1), 1);
        e.lie(up, 0, 0);
        PepperTables hears = Edges.of(PEOPLE + "sack s;thing t by a to b hot 4 in s;thing u by c to a hot 4 in s;", 0, 1, 2);
        e.due("b should sit, c should not", hears.feast(1, 2), 1);
        e.lie(hears, 1, 0);
        e.due("c should not sit, b should", hears.feast(2, 1), 1);
        e.lie(hears, 0, 1);
        e.promise(25, "FEAST: how many RESTS; NONE if both are one, or one can't be. Whether both SIT (1, 0) in the first of these lies"
                + " there then (the first one, the other one; of like ones the least numbers; behind 0, NONE: nothing).");
        PepperTables z = Edges.of(PEOPLE + "sack s;thing t by c to a hot 4 in s;thing u by b to c hot 4 in s;", 2);
        e.due("a sits, b does not", z.feast(0, 1), 1);
        e.lie(z, 1, 0);
        e.due("b does not, a sits", z.feast(1, 0), 1);
        e.lie(z, 0, 1);
        e.due("both are one", z.feast(0, 0), -1);
        e.lie(z);
        z.rank();
        e.due("no such one", z.feast(0, 4), -1);
        e.lie(z);
        for (int wrong : WRONG) {
            z.rank();
            e.due("feast(" + wrong + ", 0)", z.feast(wrong, 0), -1);
            e.lie(z);
            z.rank();
            e.due("feast(0, " + wrong + ")", z.feast(0, wrong), -1);
            e.lie(z);
            e.due("both are none", z.feast(wrong, wrong), -1);
        }
        PepperTables chase = Edges.of("person a;person b;person c;person d;sack r;thing t by c to a hot 4 in r;"
                + "thing u by a to b hot 5 in r;thing v by b to d hot 1 in r;", 2, 3);
        chase.rank();
        e.due("no rests", chase.feast(0, 1), 0);
        e.lie(chase);
        PepperTables two = Edges.of("person a;person b;sack s;thing t by a to b hot 4 in s;", 0, 1);
        e.due("a does not sit, or b has no choice", two.feast(0, 1), 2);
        e.lie(two, 0, 0);
    }

    private void shyests() {
        e.terms("the greatest shy (0 .. 9, in place of his by whom it is, for it alone) by which it were let out by GRINDING that now.");
        String start = "person a shy 5;person b;sack s;thing t by a to b hot 9 in s;said ";
        e.due("8", Edges.of("person a shy 5;person b;sack s;thing t by a to b hot 9 in s;", 0, 1).shyest(0), 8);
        e.due("0", Edges.of("person a shy 5;person b;sack s;thing t by a to b hot 1 in s;", 0, 1).shyest(0), 0);
        e.due("9", Edges.of(start + "1;", 0, 1).shyest(0), 9);
        e.due("9 alone", Edges.of(start + "shy = 9;", 0, 1).shyest(0), 9);
        e.due("not 10", Edges.of(start + "shy = 10 or shy = 3;", 0, 1).shyest(0), 3);
        PepperTables now = Edges.of("person a shy 5;person b shy 9;sack r;sack s;thing t by a to b hot 9 in s;thing u by b to a hot 4 in s;"
                + "said shy < heat - 10 + ground;", 0, 1);
        e.due("r is empty", now.would(0), 0);
        e.due("by the heat of s", now.shyest(0), 2);
        e.due("nothing is said", now.grind(1), 0);
        e.due("s was ground once", now.shyest(0), 3);
        e.due("u goes into r", now.pour(1, 0), 1);
        e.due("by less heat", now.shyest(0), -1);
        e.promise(26, "SHYEST; NONE if not even by 0, it is SAID, in no SACK, or there is none such.");
        e.due("not even by 0", Edges.of(start + "0;", 0, 1).shyest(0), -1);
        e.due("by 0 alone", Edges.of(start + "shy = 0;", 0, 1).shyest(0), 0);
        e.due("one does not sit", Edges.of(start + "1;", 0).shyest(0), -1);
        PepperTables x = Edges.of(FISH, 0, 1, 2);
        x.grind(0);
        e.due("said", x.shyest(0), -1);
        e.due("in no sack", x.shyest(4), -1);
        e.due("none such", x.shyest(5), -1);
        for (int wrong : WRONG) {
            e.due("shyest(" + wrong + ")", x.shyest(wrong), -1);
        }
    }

    private void lines() {
        e.terms("LINE: the most PEOPLE each of whom has a KEPT THING to the next one, no one twice.");
        PepperTables x = Edges.of("person a;person b;person c;thing t by a to b hot 1;thing u by b to a hot 1;");
        e.due("a to b, not back to a", x.line(), 2);
        e.lie(x, 0, 1);
        e.promise(27, "LINE: how many. The first such row lies there then (by numbers).");
        PepperTables ring = Edges.of(Edges.lines("person #;", 6) + "thing t by a to f hot 1;thing u by f to e hot 1;thing v by e to d hot 1;"
                + "thing w by d to c hot 1;thing y by c to b hot 1;thing z by b to a hot 1;");
        e.due("all six", ring.line(), 6);
        e.lie(ring, 0, 5, 4, 3, 2, 1);
        PepperTables alone = Edges.of("person a;person b;");
        e.due("nothing kept", alone.line(), 1);
        e.lie(alone, 0);
        PepperTables nobody = Edges.of("");
        e.due("nobody", nobody.line(), 0);
        e.lie(nobody);
        PepperTables said = Edges.of("person a;person b;sack s;thing t by b to a hot 1 in s;", 0, 1);
        e.due("kept", said.line(), 2);
        e.lie(said, 1, 0);
        said.grind(0);
        e.due("said", said.line(), 1);
        e.lie(said, 0);
    }

    private void invites() {
        e.promise(28, "Him of the PEOPLE who does not SIT by whose sitting down most THINGS were SAID by GRINDING all SACKS, from the least"
                + " number on, each once; of like ones the first: what 0: he, 1: how many; NONE if all SIT, or for another what.");
        PepperTables x = Edges.of(FISH, 0);
        e.due("b", x.invite(0), 1);
        e.due("one", x.invite(1), 1);
        x.sit(1);
        e.due("c", x.invite(0), 2);
        e.due("three", x.invite(1), 3);
        e.due("another what", x.invite(2), -1);
        for (int wrong : WRONG) {
            e.due("what " + wrong, x.invite(wrong), -1);
        }
        x.sit(2);
        e.due("d, the only one left", x.invite(0), 3);
        x.sit(3);
        e.due("all sit", x.invite(0), -1);
        e.due("all sit", x.invite(1), -1);
        e.due("of like ones the first", Edges.of(FISH).invite(0), 0);
        e.due("none said", Edges.of(FISH).invite(1), 0);
        e.due("without people", Edges.of("").invite(0), -1);
    }

    private void blends() {
        e.promise(29, "How many THINGS by GRINDING a SACK would be SAID, if all KEPT THINGS of another one lay in it, too;"
                + " NONE if both are one, or one can't be.");
        PepperTables x = Edges.of(FISH, 0, 1, 2);
        e.due("s into r", x.blend(0, 1), 3);
        e.due("an empty one", x.blend(0, 2), 1);
        e.due("into an empty one", x.blend(2, 1), 2);
        e.due("two empty ones", Edges.of("sack r;sack s;").blend(0, 1), 0);
        x.grind(1);
        e.due("what is said is kept no more", x.blend(0, 1), 1);
        e.due("both are one", x.blend(1, 1), -1);
        e.due("none such", x.blend(0, 3), -1);
        e.due("none such", x.blend(3, 0), -1);
        e.due("both are none", x.blend(3, 3), -1);
        for (int wrong : WRONG) {
            e.due("blend(" + wrong + ", 0)", x.blend(wrong, 0), -1);
            e.due("blend(0, " + wrong + ")", x.blend(0, wrong), -1);
        }
    }

    private void exchanges() {
        e.promise(30, "The two KEPT THINGS in unlike SACKS by whose exchange most THINGS were SAID by GRINDING all SACKS, from the least number"
                + " on, each once, if these are more than as it is; of like ones the first (the lesser number, then the other one):"
                + " what 0: the first one, 1: the other one, 2: how many; NONE if there are none, or for another what.");
        // Only r was ground: there u or v would be said, t is to one who does not sit.
        PepperTables x = Edges.of(PEOPLE + "sack r;sack s;thing t by a to c hot 2 in r;thing u by b to a hot 1 in s;thing v by b to a hot 1 in s;"
                + "thing w by a to b hot 1;said ground;", 0, 1);
        e.due("none in a sack that was not ground", x.exchange(0), -1);
        x.grind(0);
        e.due("t", x.exchange(0), 0);
        e.due("u, the first of like ones", x.exchange(1), 1);
        e.due("how many", x.exchange(2), 1);
        e.due("another what", x.exchange(3), -1);
        for (int wrong : WRONG) {
            e.due("what " + wrong, x.exchange(wrong), -1);
        }
        PepperTables same = Edges.of(FISH, 0, 1, 2);
        for (int what = 0; what < 3; what++) {
            e.due("no more than as it is", same.exchange(what), -1);
        }
        PepperTables one = Edges.of(PEOPLE + "sack r;thing t by a to c hot 2 in r;thing u by a to b hot 1 in r;thing v by a to b hot 1;said ground;",
                0, 1);
        one.grind(0);
        e.due("in one sack, and in none", one.exchange(0), -1);
        exchangesInThreeSacks();
        e.due("without things", Edges.of("").exchange(0), -1);
    }

    private void exchangesInThreeSacks() {
        // What has no part in it is said as before; each of both must fit the heat of the other sack.
        PepperTables x = Edges.of(PEOPLE + "sack r;sack s;sack q;thing t by a to b hot 9 in r;thing u by a to b hot 1 in s;thing v by a to b hot 2 in r;"
                + "thing w by a to b hot 6 in q;thing y by a to b hot 4 in s;said heat = 3 or heat = 13 or heat = 6;", 0, 1);
        e.due("as it is", x.fewest(2), 8);
        e.due("t", x.exchange(0), 0);
        e.due("u", x.exchange(1), 1);
        e.due("all", x.exchange(2), 5);
        x.grind(2);
        e.due("kept ones that are said", x.exchange(2), 4);
        // What was said, or lies in none, is in no exchange, whichever of both it is: else one more would be said in r.
        String[] rows = {"thing t by a to b hot 1 in r;thing u by a to b hot 1 in s;", "thing u by a to b hot 1 in s;thing t by a to b hot 1 in r;"};
        for (String row : rows) {
            PepperTables y = Edges.of(PEOPLE + "sack r;sack s;" + row + "said ground;", 0, 1);
            y.grind(0);
            e.due("the one for the other: no more than as it is", y.exchange(0), -1);
            e.due("one of them is said", Integer.bitCount(y.grind(0)), 1);
            e.due("one was said", y.exchange(0), -1);
        }
        String[] lying = {"thing t by a to c hot 1 in r;thing u by a to b hot 1;", "thing u by a to b hot 1;thing t by a to c hot 1 in r;"};
        for (String row : lying) {
            PepperTables y = Edges.of(PEOPLE + "sack r;sack s;" + row + "said ground;", 0, 1);
            y.grind(0);
            e.due("one lies in none", y.exchange(0), -1);
        }
    }

    private void afters() {
        e.promise(31, "By how few GRINDINGS of its SACK alone, one behind the other (1 .. 9), a KEPT THING is SAID at this table;"
                + " NONE if by none of these, it is SAID, in no SACK, or there is none such.");
        PepperTables x = Edges.of(PEOPLE + "sack r;thing t by a to b hot 1 in r;thing u by a to b hot 2 in r;thing v by a to b hot 3 in r;"
                + "thing w by a to b hot 3;thing y by a to c hot 3 in r;said hot = 1 or hot = 2 and ground = 8 or hot = 3 and ground = 9;", 0, 1);
        e.due("by 1", x.after(0), 1);
        e.due("by 9", x.after(1), 9);
        e.due("by 10", x.after(2), -1);
        e.due("in no sack", x.after(3), -1);
        e.due("not at this table", x.after(4), -1);
        e.due("none such", x.after(5), -1);
        for (int wrong : WRONG) {
            e.due("after(" + wrong + ")", x.after(wrong), -1);
        }
        x.grind(0);
        e.due("said", x.after(0), -1);
        e.due("by 8 more", x.after(1), 8);
        e.due("by 9 more", x.after(2), 9);
        // The count stays at 99: what needs 100 never comes.
        PepperTables y = Edges.of(PEOPLE + "sack r;thing t by a to b hot 1 in r;said ground > 99;", 0, 1);
        for (int i = 0; i < 98; i++) {
            y.grind(0);
        }
        e.due("beyond 99", y.after(0), -1);
    }

    private void rumours() {
        e.promise(32, "RUMOUR: the fewest THINGS SAID, each to him by whom the next one is, from one of the PEOPLE to another one"
                + " (0: they are one); NONE if none leads there, or one can't be.");
        PepperTables x = Edges.of(Edges.lines("person #;", 6) + "sack s;thing t by a to b hot 1 in s;thing u by b to c hot 1 in s;"
                + "thing v by c to d hot 1 in s;thing w by d to e hot 1 in s;thing y by e to f hot 1 in s;thing z by a to e hot 1;",
                0, 1, 2, 3, 4, 5);
        e.due("nothing said", x.rumour(0, 1), -1);
        e.due("they are one", x.rumour(5, 5), 0);
        x.grind(0);
        e.due("one", x.rumour(0, 1), 1);
        e.due("five", x.rumour(0, 5), 5);
        e.due("not back", x.rumour(5, 0), -1);
        x.pour(5, 0);
        x.grind(0);
        e.due("the fewest", x.rumour(0, 5), 2);
        e.due("none such", x.rumour(0, 6), -1);
        e.due("none such", x.rumour(6, 6), -1);
        for (int wrong : WRONG) {
            e.due("rumour(" + wrong + ", 0)", x.rumour(wrong, 0), -1);
            e.due("rumour(0, " + wrong + ")", x.rumour(0, wrong), -1);
            e.due("they are one, who is not", x.rumour(wrong, wrong), -1);
        }
    }

    private void keeps() {
        e.promise(33, "How hot all are together that one KEEPS from another one; NONE if one can't be.");
        PepperTables x = Edges.of(PEOPLE + "sack s;thing t by a to b hot 9 in s;thing u by a to b hot 8;thing v by b to a hot 1;", 0, 1);
        e.due("both", x.keeps(0, 1), 17);
        e.due("the other way", x.keeps(1, 0), 1);
        e.due("nothing", x.keeps(0, 2), 0);
        e.due("nothing from himself", x.keeps(0, 0), 0);
        x.grind(0);
        e.due("what is kept still", x.keeps(0, 1), 8);
        e.due("none such", x.keeps(0, 4), -1);
        e.due("none such", x.keeps(4, 0), -1);
        for (int wrong : WRONG) {
            e.due("keeps(" + wrong + ", 0)", x.keeps(wrong, 0), -1);
            e.due("keeps(0, " + wrong + ")", x.keeps(0, wrong), -1);
        }
    }

    private void dupes() {
        e.promise(34, "Him of the PEOPLE to whom the hottest things (together) are KEPT; of like ones the first; NONE without PEOPLE.");
        PepperTables x = Edges.of("person a;person b;person c;sack s;thing t by a to b hot 5 in s;thing u by c to b hot 4 in s;"
                + "thing v by b to c hot 9;thing w by b to a hot 8;", 0, 1);
        e.due("b and c are alike", x.dupe(), 1);
        x.grind(0);
        e.due("c", x.dupe(), 2);
        e.due("nothing kept: the first", Edges.of(PEOPLE).dupe(), 0);
        e.due("without people", Edges.of("sack s;").dupe(), -1);
    }

    private void sparks() {
        e.promise(35, "How many more must SIT at the least so that by GRINDING a SACK once something is SAID (0: it is now);"
                + " NONE if nobody's sitting is enough, or there is none such.");
        PepperTables x = Edges.of(FISH);
        e.due("two", x.spark(0), 2);
        x.sit(0);
        e.due("one", x.spark(0), 1);
        x.sit(1);
        e.due("it is now", x.spark(0), 0);
        e.due("an empty sack", x.spark(2), -1);
        e.due("none such", x.spark(3), -1);
        for (int wrong : WRONG) {
            e.due("spark(" + wrong + ")", x.spark(wrong), -1);
        }
        PepperTables many = Edges.of(PEOPLE + "sack r;thing t by a to b hot 1 in r;said guests = 2;", 2);
        e.due("one sits too many", many.spark(0), -1);
        PepperTables six = Edges.of(Edges.lines("person #;", 6) + "sack r;thing t by a to b hot 1 in r;said guests = 6;");
        e.due("all six", six.spark(0), 6);
    }

    private void spines() {
        e.promise(36, "PEOPLE who SIT at each table (just these SIT, whoever they are) at which by GRINDING a SACK now something is SAID,"
                + " as bits; NONE if there is no such table, or no such SACK.");
        PepperTables x = Edges.of(FISH, 3);
        e.due("a and b", x.spine(0), 3);
        e.due("c", x.spine(1), 4);
        e.due("no such table", x.spine(2), -1);
        e.due("no such sack", x.spine(3), -1);
        for (int wrong : WRONG) {
            e.due("spine(" + wrong + ")", x.spine(wrong), -1);
        }
        PepperTables apart = Edges.of("person a;person b;person c;person d;sack r;thing t by a to b hot 1 in r;thing u by c to d hot 1 in r;");
        e.due("nobody is at each", apart.spine(0), 0);
        PepperTables six = Edges.of(Edges.lines("person #;", 6) + "sack r;thing t by a to b hot 1 in r;said guests = 6;");
        e.due("all six", six.spine(0), 63);
        x.sit(0);
        x.sit(1);
        x.grind(0);
        e.due("said already", x.spine(0), -1);
    }

    private void idles() {
        e.promise(37, "SACKS by whose GRINDING now nothing is SAID, as bits.");
        e.due("all", Edges.of(FISH).idle(), 7);
        e.due("the empty one", Edges.of(FISH, 0, 1, 2).idle(), 4);
        e.due("without sacks", Edges.of(PEOPLE).idle(), 0);
        e.due("five", Edges.of(Edges.lines("sack #;", 5)).idle(), 31);
    }

    private void storms() {
        e.promise(38, "How hot all are together that would be SAID by GRINDING all SACKS now, from the least number on, each once.");
        e.due("nobody sits", Edges.of(FISH).storm(), 0);
        e.due("all that can", Edges.of(FISH, 0, 1, 2).storm(), 21);
        PepperTables x = Edges.of("person a;person b;sack r;sack s;" + Edges.lines("thing # by a to b hot 9 in s;", 10) + "said ground = 0;", 0, 1);
        e.due("all ten", x.storm(), 90);
        x.grind(1);
        e.due("said already", x.storm(), 0);
        PepperTables once = Edges.of("person a;person b;sack r;thing t by a to b hot 1 in r;thing u by a to b hot 9 in r;said hot = 1 or ground;", 0, 1);
        e.due("each once", once.storm(), 1);
    }

    private void hottest() {
        e.promise(39, "The SACK of the most HEAT; of like ones the first; NONE without SACKS.");
        PepperTables x = Edges.of(PEOPLE + "sack q;sack r;sack s;thing t by a to b hot 5 in r;thing u by b to a hot 5 in s;", 0, 1);
        e.due("of like ones the first", x.hottest(), 1);
        x.grind(1);
        e.due("kept ones only", x.hottest(), 2);
        x.grind(2);
        e.due("all empty: the first", x.hottest(), 0);
        e.due("without sacks", Edges.of(PEOPLE).hottest(), -1);
    }

    private void closest() {
        e.promise(40, "Him of the PEOPLE by whom most THINGS are KEPT; of like ones the first; NONE without PEOPLE.");
        PepperTables x = Edges.of("person a;person b;person c;sack s;thing t by b to c hot 1 in s;thing u by c to b hot 9;"
                + "thing v by b to c hot 1;thing w by c to a hot 9;", 1, 2);
        e.due("of like ones the first", x.closest(), 1);
        x.grind(0);
        e.due("c", x.closest(), 2);
        e.due("nothing kept: the first", Edges.of(PEOPLE).closest(), 0);
        e.due("without people", Edges.of("").closest(), -1);
    }

    private void ranks() {
        e.promise(41, "How many PEOPLE. They lie there then, him by whom the hottest things (together) are KEPT first;"
                + " of like ones the lesser number.");
        PepperTables x = Edges.of(Edges.lines("person #;", 6) + "thing t by c to a hot 4;thing u by c to a hot 4;thing v by f to a hot 8;thing w by b to a hot 9;");
        e.due("six", x.rank(), 6);
        e.lie(x, 1, 2, 5, 0, 3, 4);
        PepperTables nobody = Edges.of("");
        e.due("nobody", nobody.rank(), 0);
        e.lie(nobody);
    }

    private void nears() {
        e.promise(42, "KEPT THINGS of which both SIT, as bits.");
        e.due("nobody sits", Edges.of(FISH).near(), 0);
        PepperTables x = Edges.of(FISH, 0, 3);
        e.due("a and d, shy as he is", x.near(), 2);
        x.sit(2);
        e.due("in none, too", x.near(), 26);
        x.sit(1);
        e.due("all", x.near(), 31);
        x.grind(1);
        e.due("kept ones only", x.near(), 19);
    }

    private void scandals() {
        e.promise(43, "How hot all that was SAID is, together.");
        PepperTables x = Edges.of("person a;person b;sack s;" + Edges.lines("thing # by a to b hot 9 in s;", 10), 0, 1);
        e.due("nothing said", x.scandal(), 0);
        x.grind(0);
        e.due("all ten", x.scandal(), 90);
        x.undo();
        e.due("taken back", x.scandal(), 0);
    }

    private void laws() {
        e.promise(44, "How many THINGS by GRINDING a SACK would be SAID, if it had been GROUND n times (0 .. 99); NONE if one can't be.");
        PepperTables x = Edges.of(PEOPLE + "sack r;sack s;thing t by a to b hot 1 in r;thing u by a to b hot 2 in r;"
                + "said ground = 0 and hot = 1 or ground = 99;", 0, 1);
        e.due("0", x.law(0, 0), 1);
        e.due("1", x.law(0, 1), 0);
        e.due("98", x.law(0, 98), 0);
        e.due("99", x.law(0, 99), 2);
        e.due("100", x.law(0, 100), -1);
        e.due("below 0", x.law(0, -1), -1);
        e.due("an empty sack", x.law(1, 99), 0);
        e.due("none such", x.law(2, 0), -1);
        x.grind(0);
        e.due("0, whatever it was", x.law(0, 99), 1);
        for (int wrong : WRONG) {
            e.due("law(" + wrong + ", 0)", x.law(wrong, 0), -1);
        }
        e.due("the greatest", x.law(0, Integer.MAX_VALUE), -1);
        e.due("the least", x.law(0, Integer.MIN_VALUE), -1);
    }

    private void nexts() {
        e.promise(45, "The THING that is SAID if somebody sneezes now; NONE if there is none.");
        PepperTables x = Edges.of(FISH);
        e.due("nobody sits", x.next(), -1);
        x.sit(3);
        e.due("by d, shy as he is", x.next(), 1);
        x.sit(2);
        e.due("the hottest", x.next(), 3);
        x.sit(1);
        e.due("of like ones the first", x.next(), 2);
        e.due("without things", Edges.of(PEOPLE, 0).next(), -1);
    }

    private void odds() {
        e.terms("ODDS: that nobody sneezes in n COURSES, whatever the SEED is.");
        PepperTables x = Edges.of("sneeze 1;draw 29;");
        e.due("99", x.odds(1, 0), 99);
        e.due("of 100", x.odds(1, 1), 100);
        x.course();
        e.due("99 still", x.odds(1, 0), 99);
        e.promise(46, "ODDS (n 0 .. 4) the upper part (0), the lower part (1), in lowest terms (0 of 1); NONE if one can't be.");
        e.due("n 0", x.odds(0, 0), 1);
        e.due("n 0", x.odds(0, 1), 1);
        e.due("n 4", x.odds(4, 0), 96059601);
        e.due("n 4", x.odds(4, 1), 100000000);
        e.due("n 5", x.odds(5, 0), -1);
        e.due("part 2", x.odds(1, 2), -1);
        for (int wrong : WRONG) {
            e.due("n " + wrong, x.odds(wrong, 0), -1);
            e.due("part " + wrong, x.odds(1, wrong), -1);
        }
        PepperTables two = Edges.of("sneeze 2;");
        e.due("lowest terms", two.odds(1, 0), 49);
        e.due("lowest terms", two.odds(1, 1), 50);
        PepperTables even = Edges.of("sneeze 50;");
        e.due("lowest terms", even.odds(3, 0), 1);
        e.due("lowest terms", even.odds(3, 1), 8);
        PepperTables always = Edges.of("sneeze 100;");
        e.due("0", always.odds(2, 0), 0);
        e.due("of 1", always.odds(2, 1), 1);
        e.due("no course: 1", always.odds(0, 0), 1);
        e.due("of 1", always.odds(0, 1), 1);
        PepperTables never = Edges.of("");
        e.due("1", never.odds(4, 0), 1);
        e.due("of 1", never.odds(4, 1), 1);
    }

    private void lying() {
        e.promise(47, "The i-th number of what lies there; NONE if there is none such.");
        PepperTables x = Edges.of(Edges.lines("person #;", 6) + "sack s;thing t by f to a hot 1;");
        e.due("nothing lies there", x.lies(0), -1);
        x.rank();
        e.lie(x, 5, 0, 1, 2, 3, 4);
        for (int wrong : WRONG) {
            e.due("lies(" + wrong + ")", x.lies(wrong), -1);
        }
        x.round(2, 0);
        e.lie(x, 0, 0);
        x.rank();
        e.lie(x, 5, 0, 1, 2, 3, 4);
        x.rank();
        e.lie(x, 5, 0, 1, 2, 3, 4);
        x.round(2, 0);
        e.lie(x, 0, 0);
        e.due("what lay there is gone", x.lies(2), -1);
        x.line();
        e.lie(x, 5, 0);
    }

    /** As much of everything as can be: all sit, each sack holds two and lets both out. */
    private void full() {
        e.terms("At most 6 PEOPLE (shy 0 .. 9, 0 if not told), 5 SACKS, 10 THINGS");
        PepperTables x = Edges.of(Edges.lines("person #;", 6) + Edges.lines("sack #;", 5)
                + "thing a by a to b hot 1 in a;thing b by b to c hot 2 in a;thing c by c to d hot 3 in b;thing d by d to e hot 4 in b;"
                + "thing e by e to f hot 5 in c;thing f by f to a hot 6 in c;thing g by a to c hot 7 in d;thing h by b to d hot 8 in d;"
                + "thing i by c to e hot 9 in e;thing j by f to b hot 9 in e;", 0, 1, 2, 3, 4, 5);
        fullOfPeople(x);
        fullOfSacks(x);
        fullOfHeard(x);
        for (int sack = 0; sack < 5; sack++) {
            e.due("grind", x.grind(sack), 3 << (2 * sack));
        }
        e.due("d to e to f to b to c", x.rumour(3, 2), 4);
        e.due("scandal", x.scandal(), 54);
        e.due("pairs", x.pairs(), 0);
        e.due("said to b", x.person(1, 4), 513);
    }

    private void fullOfPeople(PepperTables x) {
        e.due("kept by f", x.person(5, 2), 544);
        e.due("kept to b", x.person(1, 3), 513);
        e.due("from f to b", x.keeps(5, 1), 9);
        e.due("dupe", x.dupe(), 4);
        e.due("closest", x.closest(), 0);
        e.due("near", x.near(), 1023);
        e.due("next", x.next(), 8);
        e.due("gain", x.gain(5), 5);
        e.due("invite", x.invite(0), -1);
        e.due("line", x.line(), 6);
        e.lie(x, 0, 1, 2, 3, 4, 5);
        e.due("rank", x.rank(), 6);
        e.lie(x, 5, 2, 1, 0, 4, 3);
        e.due("feast", x.feast(0, 1), 1);
        e.lie(x, 0, 0);
    }

    private void fullOfSacks(PepperTables x) {
        e.due("round", x.round(4, 0), 8);
        e.lie(x, 1, 2, 3, 4);
        e.due("round", x.round(4, 1), 51);
        e.due("fewest", x.fewest(1), 31);
        e.due("fewest", x.fewest(2), 1023);
        e.due("storm", x.storm(), 54);
        e.due("idle", x.idle(), 0);
        e.due("mute", x.mute(), 0);
        e.due("hottest", x.hottest(), 4);
        e.due("table", x.table(768, 4, 1), 54);
        e.due("send", x.send(4, 1), 6);
        e.due("spark", x.spark(4), 0);
        e.due("spine", x.spine(4), 0);
        e.due("blend", x.blend(0, 4), 4);
        e.due("law", x.law(4, 99), 2);
        e.due("exchange", x.exchange(0), -1);
        e.due("hide", x.hide(9, 0), -1);
        e.due("shyest", x.shyest(9), 8);
        e.due("after", x.after(9), 1);
    }

    private void fullOfHeard(PepperTables x) {
        e.due("rows", x.rows(0), 36);
        e.due("ask", x.ask(0, 0), 0);
        e.due("ask", x.ask(1, 0), 25);
        e.due("sure", x.sure(0, 0), -2);
        for (int i = 0; i < 30; i++) {
            e.due("heard", x.heard(4, i % 3, true), i);
        }
        e.due("both in the last", x.rows(0), 1);
        e.due("sure", x.sure(0, 0), 4);
        e.due("sure", x.sure(1, 0), 4);
    }
}
