/** Edges of what is and of acts: grinding and its formula, sneezes, undoing; promises 6 to 16 and 54 to 56. */
final class ActsEdges {
    /** a is shy 5, b is not; s holds t and u, of r nothing, v lies in none. */
    private static final String FISH = "person a shy 5;person b;person c;sack s;sack r;"
            + "thing t by a to b hot 5 in s;thing u by b to a hot 1 in s;thing v by c to a hot 9;";
    private static final int[] WRONG = {-2, -1, 10, 31, 32, 33, 64, Integer.MIN_VALUE, Integer.MAX_VALUE};

    private final Edges e;

    private ActsEdges(Edges edges) {
        e = edges;
    }

    static void play(Edges edges) {
        ActsEdges t = new ActsEdges(edges);
        t.heats();
        t.bothSit();
        t.formulaUntold();
        t.numbersOfFormulas();
        t.aheadOfIt();
        t.groundAtMost();
        t.seeds();
        t.sneezes();
        t.undoing();
        t.fortyAtMost();
        t.people();
        t.things();
        t.sacks();
        t.would();
        t.sitting();
        t.grinding();
        t.pouring();
        t.courses();
        t.nothingToUndo();
        t.boxes();
        t.about();
    }

    private void heats() {
        e.terms("its HEAT: how hot all KEPT THINGS in it are together");
        PepperTables x = Edges.of("person a;person b;sack s;sack r;" + Edges.lines("thing # by a to b hot 9 in s;", 10) + "said hot;");
        e.due("ten", x.sack(0, 0), 90);
        e.due("nothing in it", x.sack(1, 0), 0);
        x.pour(9, -1);
        e.due("nine", x.sack(0, 0), 81);
        x.sit(0);
        x.sit(1);
        x.grind(0);
        e.due("what is said is not kept", x.sack(0, 0), 0);
    }

    private void bothSit() {
        e.terms("if both (by, to) SIT");
        PepperTables x = Edges.of(FISH);
        e.due("neither", x.would(0), 0);
        x.sit(1);
        e.due("one of both", x.would(0), 0);
        x.sit(2);
        e.due("another one", x.would(0), 0);
        x.sit(0);
        e.due("both", x.would(0), 2);
        x.rise(1);
        e.due("the other one of both", x.would(0), 0);
    }

    private void formulaUntold() {
        e.terms("(hot > shy, if it is not told)");
        PepperTables x = Edges.of("person a shy 4;person b shy 9;sack s;" + Edges.lines("thing # by a to b hot 4 in s;", 1)
                + "thing e by a to b hot 5 in s;thing f by b to a hot 9 in s;thing g by b to a hot 1 in s;", 0, 1);
        e.due("4 is not above 4, 5 is, 9 is not above 9", x.would(0), 2);
        x = Edges.of("person a shy 9;person b;sack s;thing t by a to b hot 1 in s;said 1;", 0, 1);
        e.due("told", x.would(0), 1);
    }

    /** Whether a thing, hot 7, by one who is shy 2, is let out of a sack of heat 7 at a table of two. */
    private void let(String formula, int out) {
        PepperTables x = Edges.of("person a shy 2;person b;sack s;thing t by a to b hot 7 in s;said " + formula + ";", 0, 1);
        e.due("said " + formula, x.would(0), out);
    }

    private void numbersOfFormulas() {
        e.terms("guests (how many SIT), ground (how often the SACK was), heat (its HEAT), course (0 at first; ints, wrapping;");
        let("guests = 2", 1);
        let("ground = 0", 1);
        let("heat = 7", 1);
        let("course = 0", 1);
        String least = "(2048 * 1024 * 1024)";
        let(least + " < 0", 1);
        let(least + " - 1 > 0", 1);
        let("not " + least + " - 1 + 1 > 0", 1);
        let(least + " + " + least + " = 0", 1);
        let(least + " * 2 = 0", 1);
        let("0 - " + least + " = " + least, 1);
        e.terms("/ cut, % its rest, both by 0: 0;");
        let("7 / 2 = 3", 1);
        let("(0 - 7) / 2 = 0 - 3", 1);
        let("7 / (0 - 2) = 0 - 3", 1);
        let("7 % 2 = 1", 1);
        let("(0 - 7) % 2 = 0 - 1", 1);
        let("7 % (0 - 2) = 1", 1);
        let("7 / 0 = 0", 1);
        let("7 % 0 = 0", 1);
        let("0 / 0", 0);
        let("0 % 0", 0);
        let("hot / ground", 0);
        let(least + " / (0 - 1) = " + least, 1);
        let(least + " % (0 - 1) = 0", 1);
        e.terms("relations, and, or, not are 1 or 0, of what is not 0) is not 0");
        let("(5 > 3) = 1", 1);
        let("(3 > 3) = 0", 1);
        let("(3 < 3) = 0", 1);
        let("(3 = 3) = 1", 1);
        let("(3 and 0 - 3) = 1", 1);
        let("(3 and 0) = 0", 1);
        let("(0 or 7) = 1", 1);
        let("(0 or 0) = 0", 1);
        let("(not 7) = 0", 1);
        let("(not 0) = 1", 1);
        let("7", 1);
        let("0 - 7", 1);
        let("0", 0);
        let("hot - 7", 0);
    }

    private void aheadOfIt() {
        e.terms("by what is so ahead of it; all that are let out are SAID, the SACK was GROUND once more");
        PepperTables x = Edges.of("person a;person b;sack s;thing t by a to b hot 4 in s;thing u by b to a hot 5 in s;"
                + "said heat = 9 and ground = 0;", 0, 1);
        e.due("the heat goes down for none of these", x.grind(0), 3);
        e.due("said", x.about(4), 3);
        e.due("ground", x.sack(0, 2), 1);
    }

    private void groundAtMost() {
        e.terms("(99 at most)");
        PepperTables x = Edges.of("person a;person b;sack s;thing t by a to b hot 1 in s;said ground = 99;", 0, 1);
        for (int i = 0; i < 98; i++) {
            x.grind(0);
        }
        e.due("98", x.sack(0, 2), 98);
        e.due("not yet", x.grind(0), 0);
        e.due("99", x.sack(0, 2), 99);
        e.due("now", x.grind(0), 1);
        e.due("99 still", x.sack(0, 2), 99);
        x.grind(0);
        e.due("99 still", x.sack(0, 2), 99);
    }

    private void seeds() {
        e.terms("the course goes up by 1; the SEED (draw, at first) becomes its 137-fold and 71 more, modulo 1,000;");
        int[][] rows = {{0, 71}, {1, 208}, {6, 893}, {7, 30}, {777, 520}, {993, 112}, {999, 934}};
        for (int[] row : rows) {
            PepperTables x = Edges.of("draw " + row[0] + ";");
            e.due("draw", x.about(6), row[0]);
            x.course();
            e.due("behind " + row[0], x.about(6), row[1]);
            e.due("course", x.about(5), 1);
        }
    }

    private int sneeze(int draw, int sneeze) {
        return Edges.of("person a;person b;thing t by a to b hot 1;draw " + draw + ";sneeze " + sneeze + ";", 0).course();
    }

    private void sneezes() {
        e.terms("if its rest by 100 is less than sneeze tells");
        // 7 * 137 + 71 = 1030, 80 * 137 + 71 = 11031, 617 * 137 + 71 = 84600, 244 * 137 + 71 = 33499.
        e.due("30 is not less than 30", sneeze(7, 30), -1);
        e.due("30 is less than 31", sneeze(7, 31), 0);
        e.due("31 is not less than 31", sneeze(80, 31), -1);
        e.due("600 has no rest: less than 1", sneeze(617, 1), 0);
        e.due("not less than 0", sneeze(617, 0), -1);
        e.due("99 is less than 100", sneeze(244, 100), 0);
        e.due("99 is not less than 99", sneeze(244, 99), -1);
        e.terms("of KEPT THINGS (in whatever SACK, or none) by one who SITS the hottest one is SAID (of like ones the first),"
                + " if there is one");
        PepperTables x = Edges.of("person a;person b;sack s;thing t by a to b hot 7;thing u by a to b hot 8 in s;"
                + "thing v by a to b hot 8;thing w by b to a hot 9;sneeze 100;");
        e.due("nobody sits", x.course(), -1);
        x.sit(0);
        int[] order = {1, 2, 0, -1};
        for (int thing : order) {
            e.due("the next", x.course(), thing);
        }
        e.due("said", x.about(4), 7);
        x.sit(1);
        e.due("by the other one", x.course(), 3);
        e.due("all are said", x.course(), -1);
    }

    private void undoing() {
        e.terms("UNDO takes back the latest ACT that was not, REDO does that again which was taken back last (till another ACT);");
        PepperTables x = Edges.of(FISH);
        x.sit(0);
        x.sit(1);
        x.sit(2);
        e.due("undo", x.undo(), true);
        e.due("undo", x.undo(), true);
        e.due("the latest first", x.about(3), 1);
        e.due("redo", x.redo(), true);
        e.due("the last first", x.about(3), 3);
        e.due("one more", x.about(8), 1);
        e.due("another act", x.grind(0), 2);
        e.due("none more", x.about(8), 0);
        e.due("redo", x.redo(), false);
        e.due("undo", x.undo(), true);
        e.due("undo", x.undo(), true);
        e.due("undo", x.undo(), true);
        e.due("all is taken back", x.about(3), 0);
        e.due("undo", x.undo(), false);
    }

    private void fortyAtMost() {
        e.terms("40 at most are kept, the oldest go");
        PepperTables x = new PepperTables();
        for (int i = 1; i <= 41; i++) {
            x.course();
            e.due("kept", x.about(7), Math.min(i, 40));
        }
        for (int i = 0; i < 40; i++) {
            e.due("undo", x.undo(), true);
        }
        e.due("the oldest is gone", x.undo(), false);
        e.due("course", x.about(5), 1);
        e.due("forty to redo", x.about(8), 40);
        for (int i = 0; i < 40; i++) {
            e.due("redo", x.redo(), true);
        }
        e.due("no more", x.redo(), false);
        e.due("course", x.about(5), 41);
    }

    private void people() {
        e.promise(6, "Of one of the PEOPLE what 0: shy, 1: 1 if SITTING, else 0, 2: KEPT THINGS by him, 3: KEPT THINGS to him,"
                + " 4: what was SAID to him, all as bits;");
        PepperTables x = Edges.of(FISH, 1, 0);
        int[][] want = {{5, 1, 1, 6, 0}, {0, 1, 2, 1, 0}, {0, 0, 4, 0, 0}};
        seePeople(x, want);
        x.grind(0);
        seePeople(x, new int[][] {{5, 1, 1, 4, 2}, {0, 1, 0, 1, 0}, {0, 0, 4, 0, 0}});
        e.promise(6, "-2 if there is none such, or for another what.");
        e.due("none such", x.person(3, 0), -2);
        e.due("another what", x.person(0, 5), -2);
        for (int wrong : WRONG) {
            e.due("person(" + wrong + ", 0)", x.person(wrong, 0), -2);
            e.due("person(0, " + wrong + ")", x.person(0, wrong), -2);
        }
        e.due("the last of six", Edges.of(Edges.lines("person # shy 3;", 6)).person(5, 0), 3);
    }

    private void seePeople(PepperTables x, int[][] want) {
        for (int person = 0; person < want.length; person++) {
            for (int what = 0; what < want[person].length; what++) {
                e.due("person(" + person + ", " + what + ")", x.person(person, what), want[person][what]);
            }
        }
    }

    private void things() {
        e.promise(7, "Of a THING what 0: by whom, 1: to whom, 2: hot, 3: its SACK (-1: in none), 4: 1 if SAID, else 0;");
        PepperTables x = Edges.of(FISH, 0, 1);
        x.grind(0);
        int[][] want = {{0, 1, 5, 0, 0}, {1, 0, 1, 0, 1}, {2, 0, 9, -1, 0}};
        for (int thing = 0; thing < want.length; thing++) {
            for (int what = 0; what < want[thing].length; what++) {
                e.due("thing(" + thing + ", " + what + ")", x.thing(thing, what), want[thing][what]);
            }
        }
        e.promise(7, "-2 if there is none such, or for another what.");
        e.due("none such", x.thing(3, 0), -2);
        e.due("another what", x.thing(0, 5), -2);
        for (int wrong : WRONG) {
            e.due("thing(" + wrong + ", 0)", x.thing(wrong, 0), -2);
            e.due("thing(0, " + wrong + ")", x.thing(0, wrong), -2);
        }
        x = Edges.of("person a;person b;" + Edges.lines("thing # by a to b hot 8;", 10));
        e.due("the last of ten", x.thing(9, 2), 8);
        e.due("beyond ten", x.thing(10, 2), -2);
    }

    private void sacks() {
        e.promise(8, "Of a SACK what 0: HEAT, 1: KEPT THINGS in it, as bits, 2: how often GROUND;");
        PepperTables x = Edges.of(FISH, 0, 1);
        int[][] want = {{6, 3, 0}, {5, 1, 1}};
        for (int[] row : want) {
            for (int what = 0; what < row.length; what++) {
                e.due("sack(0, " + what + ")", x.sack(0, what), row[what]);
            }
            x.grind(0);
        }
        e.promise(8, "NONE if there is none such, or for another what.");
        e.due("none such", x.sack(2, 0), -1);
        e.due("another what", x.sack(0, 3), -1);
        for (int wrong : WRONG) {
            e.due("sack(" + wrong + ", 0)", x.sack(wrong, 0), -1);
            e.due("sack(0, " + wrong + ")", x.sack(0, wrong), -1);
        }
        x = Edges.of(Edges.lines("sack #;", 5));
        e.due("the last of five", x.sack(4, 2), 0);
        e.due("beyond five", x.sack(5, 2), -1);
    }

    private void would() {
        e.promise(9, "What GRINDING a SACK would say, as bits; NONE if there is none such.");
        PepperTables x = Edges.of(FISH, 0, 1);
        e.due("one", x.would(0), 2);
        e.due("nothing in it", x.would(1), 0);
        e.due("none such", x.would(2), -1);
        for (int wrong : WRONG) {
            e.due("would(" + wrong + ")", x.would(wrong), -1);
        }
        e.due("not said by it", x.about(4), 0);
    }

    private void sitting() {
        e.promise(10, "One sits down: how many SIT; NONE, doing nothing, if he SITS, or there is none such.");
        PepperTables x = Edges.of(Edges.lines("person #;", 6));
        for (int person = 0; person < 6; person++) {
            e.due("sit", x.sit(person), person + 1);
        }
        x.undo();
        e.doesNothing("he sits", x, -1, () -> x.sit(4));
        e.doesNothing("none such", x, -1, () -> x.sit(6));
        for (int wrong : WRONG) {
            e.doesNothing("sit(" + wrong + ")", x, -1, () -> x.sit(wrong));
        }
        e.due("what was refused is no act", x.redo(), true);
        e.promise(11, "He gets up: how many SIT; NONE, doing nothing, if he does not SIT, or there is none such.");
        e.due("rise", x.rise(3), 5);
        e.due("rise", x.rise(0), 4);
        x.undo();
        e.doesNothing("he does not sit", x, -1, () -> x.rise(3));
        e.doesNothing("none such", x, -1, () -> x.rise(6));
        for (int wrong : WRONG) {
            e.doesNothing("rise(" + wrong + ")", x, -1, () -> x.rise(wrong));
        }
        e.due("what was refused is no act", x.redo(), true);
        for (int person : new int[] {1, 2, 4, 5}) {
            x.rise(person);
        }
        e.due("nobody sits", x.about(3), 0);
    }

    private void grinding() {
        e.promise(12, "A SACK is GROUND: what is SAID, as bits; NONE, doing nothing, if there is none such.");
        PepperTables x = Edges.of(FISH, 0, 1);
        e.due("one", x.grind(0), 2);
        e.due("nothing in it, ground still", x.grind(1), 0);
        e.due("ground", x.sack(1, 2), 1);
        e.due("acts", x.about(7), 4);
        x.undo();
        e.doesNothing("none such", x, -1, () -> x.grind(2));
        for (int wrong : WRONG) {
            e.doesNothing("grind(" + wrong + ")", x, -1, () -> x.grind(wrong));
        }
        e.due("what was refused is no act", x.redo(), true);
    }

    private void pouring() {
        e.promise(13, "A THING is put into a SACK (-1: out of all): where it was (-1: in none);");
        PepperTables x = Edges.of(FISH, 0, 1);
        e.due("out", x.pour(0, -1), 0);
        e.due("in none", x.thing(0, 3), -1);
        e.due("from none", x.pour(0, 1), -1);
        e.due("from one to another", x.pour(0, 0), 1);
        e.due("there", x.thing(0, 3), 0);
        x.grind(0);
        x.sit(2);
        x.undo();
        e.promise(13, "-2, doing nothing, if it is SAID, is there, or one can't be.");
        e.doesNothing("said", x, -2, () -> x.pour(1, 1));
        e.doesNothing("said, out", x, -2, () -> x.pour(1, -1));
        e.doesNothing("there", x, -2, () -> x.pour(0, 0));
        e.doesNothing("in none already", x, -2, () -> x.pour(2, -1));
        e.doesNothing("no such thing", x, -2, () -> x.pour(3, 0));
        e.doesNothing("no such sack", x, -2, () -> x.pour(0, 2));
        e.doesNothing("no such sack", x, -2, () -> x.pour(0, -2));
        for (int wrong : WRONG) {
            e.doesNothing("pour(" + wrong + ", 1)", x, -2, () -> x.pour(wrong, 1));
            if (wrong != -1) {
                e.doesNothing("pour(0, " + wrong + ")", x, -2, () -> x.pour(0, wrong));
            }
        }
        e.due("what was refused is no act", x.redo(), true);
    }

    private void courses() {
        e.promise(14, "A COURSE: the THING that is SAID (-1: none); -2, doing nothing, behind 999 of them.");
        PepperTables x = Edges.of(FISH + "sneeze 100;", 1);
        e.due("the one", x.course(), 1);
        e.due("none", x.course(), -1);
        e.due("acts", x.about(7), 3);
        // A run has 512 calls, so none can come so far; the program keeps to it nonetheless.
        for (int i = 2; i < 999; i++) {
            x.course();
        }
        e.due("courses", x.about(5), 999);
        x.sit(0);
        x.undo();
        e.doesNothing("one more", x, -2, x::course);
        e.due("what was refused is no act", x.redo(), true);
    }

    private void nothingToUndo() {
        e.promise(15, "UNDO: true; false if there is none.");
        PepperTables x = Edges.of(FISH);
        e.due("none", x.undo(), false);
        x.sit(9);
        e.due("what was refused is no act", x.undo(), false);
        x.sit(0);
        e.due("one", x.undo(), true);
        e.due("none more", x.undo(), false);
        e.promise(16, "REDO: true; false if there is none.");
        e.due("one", x.redo(), true);
        e.due("he sits", x.about(3), 1);
        e.due("none more", x.redo(), false);
        x.undo();
        x.image(0);
        x.back(0);
        e.due("none behind an image", x.redo(), false);
    }

    private void boxes() {
        e.promise(54, "Who SITS, what is SAID, where THINGS lie, how often SACKS were GROUND, the course, the SEED are kept in a BOX"
                + " 0 .. 2: the course; NONE if there is none such.");
        PepperTables x = Edges.of(FISH + "draw 7;", 0, 1);
        e.due("box 0", x.image(0), 0);
        x.course();
        x.grind(0);
        x.pour(0, 1);
        e.due("box 2", x.image(2), 1);
        e.doesNothing("box 3", x, -1, () -> x.image(3));
        for (int wrong : WRONG) {
            e.doesNothing("image(" + wrong + ")", x, -1, () -> x.image(wrong));
        }
        e.promise(55, "All is as it was kept (no ACTS are kept then): the course; NONE, doing nothing, if nothing was.");
        x.rise(0);
        x.undo();
        e.doesNothing("nothing was kept", x, -1, () -> x.back(1));
        e.doesNothing("no such box", x, -1, () -> x.back(3));
        for (int wrong : WRONG) {
            e.doesNothing("back(" + wrong + ")", x, -1, () -> x.back(wrong));
        }
        e.due("box 0", x.back(0), 0);
        seeImage(x, new int[] {3, 0, 0, 7, 0, 0, 0, 0});
        e.due("box 2", x.back(2), 1);
        seeImage(x, new int[] {3, 2, 1, 30, 0, 0, 1, 1});
        e.due("and again", x.back(0), 0);
        seeImage(x, new int[] {3, 0, 0, 7, 0, 0, 0, 0});
        e.due("gone on from", x.course(), -1);
        e.due("undo", x.undo(), true);
        seeImage(x, new int[] {3, 0, 0, 7, 0, 1, 0, 0});
        e.due("another over it", x.image(2), 0);
        e.due("the other one", x.back(2), 0);
    }

    private void seeImage(PepperTables x, int[] want) {
        for (int i = 0; i < 6; i++) {
            e.due("about(" + (3 + i) + ")", x.about(3 + i), want[i]);
        }
        e.due("where", x.thing(0, 3), want[6]);
        e.due("ground", x.sack(0, 2), want[7]);
    }

    private void about() {
        e.promise(56, "What 0: THINGS, 1: PEOPLE, 2: SACKS, 3: who SITS, 4: what is SAID, both as bits, 5: the course, 6: the SEED,"
                + " 7: ACTS that can be undone, 8: redone, 9: what is HEARD, 10: the TIME, 11: bytes on the TAPE, 12: units,"
                + " 13: numbers that lie there, 14: sneeze in 100, 15: how hot all KEPT THINGS are together.");
        PepperTables x = Edges.of(FISH + "said hot < 3;sneeze 40;draw 7;", 0, 1, 2);
        x.grind(0);
        x.course();
        x.sit(5);
        x.rise(0);
        x.undo();
        x.heard(0, 1, true);
        x.heard(0, 1, true);
        x.later(77);
        x.feed(0, 0, 0, 0, 0);
        x.line();
        // The sneeze by 30 of 40: v, the hottest, is said.
        int[] want = {3, 3, 2, 7, 6, 1, 30, 5, 1, 2, 77, 20, 2, 2, 40, 5};
        for (int what = 0; what < want.length; what++) {
            e.due("about(" + what + ")", x.about(what), want[what]);
        }
        e.promise(56, "NONE for another what.");
        for (int wrong : new int[] {-1, -2, 16, 17, 100, Integer.MIN_VALUE, Integer.MAX_VALUE}) {
            e.due("about(" + wrong + ")", x.about(wrong), -1);
        }
    }
}
