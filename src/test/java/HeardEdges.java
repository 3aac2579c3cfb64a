/** Edges of what was heard: promises 48 to 53. */
final class HeardEdges {
    private static final String TWO = "person a;person b;sack r;sack s;thing t by a to b hot 1 in r;thing u by b to a hot 9 in r;";
    private static final int[] WRONG = {-2, -1, 11, 31, 32, 33, 64, Integer.MIN_VALUE, Integer.MAX_VALUE};

    private final Edges e;

    private HeardEdges(Edges edges) {
        e = edges;
    }

    static void play(Edges edges) {
        HeardEdges t = new HeardEdges(edges);
        t.thirty();
        t.asTold();
        t.atLeast();
        t.knownAt();
        t.heard();
        t.untell();
        t.later();
        t.rows();
        t.sure();
        t.ask();
    }

    private void thirty() {
        e.terms("HEARD, 30 at most, is TOLD at a TIME (0 at first, goes on), UNTOLD at a later one or the same");
        PepperTables x = Edges.of(TWO);
        e.due("time", x.about(10), 0);
        for (int i = 0; i < 30; i++) {
            e.due("heard", x.heard(0, 0, true), i);
        }
        e.due("one more", x.heard(0, 0, true), -1);
        e.due("untold at the same", x.untell(29), true);
        e.due("one more", x.heard(0, 0, true), -1);
        e.due("time", x.later(1), 1);
        e.due("untold later", x.untell(0), true);
        e.due("heard", x.about(9), 30);
    }

    private void asTold() {
        e.terms("of the store as it was told, all PEOPLE at the table, nothing GROUND yet, but for the SACKS in which the last two THINGS"
                + " (the last one, if there is one) lay, which are not known");
        PepperTables x = Edges.of("person a;person b;person c;sack s;thing z by a to b hot 5 in s;thing t by a to b hot 1;thing u by b to a hot 1;"
                + "said guests = 3 and ground = 0 and course = 0;");
        x.sit(0);
        x.sit(1);
        x.grind(0);
        x.course();
        x.pour(0, -1);
        x.heard(0, 3, true);
        e.due("both in s, and z where it was told", x.rows(0), 1);
        e.due("the last", x.sure(0, 0), 0);
        e.due("the last but one", x.sure(1, 0), 0);
        e.due("two in s by z and one of these", asked(x, 0, 2), 3);
        PepperTables far = Edges.of("person a;person b;sack r;sack s;thing z by a to b hot 5 in s;thing y by a to b hot 5;"
                + "thing t by a to b hot 1 in r;thing u by b to a hot 1 in r;");
        e.due("z is in s", asked(far, 1, 1), 9);
        e.due("y is in none", asked(far, 0, 3), 0);
        PepperTables one = Edges.of("person a;person b;sack r;sack s;thing t by a to b hot 1 in r;");
        e.due("one thing", one.rows(0), 3);
        PepperTables two = Edges.of(TWO);
        e.due("two things", two.rows(0), 9);
        PepperTables ten = Edges.of("person a;person b;" + Edges.lines("sack #;", 5) + Edges.lines("thing # by a to b hot 9 in a;", 10));
        e.due("ten things in five sacks", ten.rows(0), 36);
        ten.heard(0, 10, true);
        e.due("all ten in the first", ten.rows(0), 1);
    }

    /** How many rows there would be by this one heard alone. */
    private static int asked(PepperTables x, int sack, int many) {
        for (int i = 0; i < x.about(9); i++) {
            x.untell(i);
        }
        int number = x.heard(sack, many, true);
        int rows = x.rows(x.about(10));
        x.untell(number);
        return rows;
    }

    private void atLeast() {
        e.terms("so many THINGS at least were SAID, or were not");
        int[] atLeast = {9, 5, 1, 0};
        for (int many = 0; many < atLeast.length; many++) {
            PepperTables x = Edges.of(TWO);
            x.heard(0, many, true);
            e.due("at least " + many, x.rows(0), atLeast[many]);
            PepperTables y = Edges.of(TWO);
            y.heard(0, many, false);
            e.due("not so many as " + many, y.rows(0), 9 - atLeast[many]);
        }
    }

    private void knownAt() {
        e.terms("As known at k that counts that was TOLD at k or before, not UNTOLD at k or before.");
        PepperTables x = Edges.of(TWO);
        x.later(5);
        x.heard(0, 2, true);
        x.later(5);
        x.untell(0);
        x.later(5);
        int[][] rows = {{Integer.MIN_VALUE, 9}, {-1, 9}, {0, 9}, {4, 9}, {5, 1}, {6, 1}, {9, 1}, {10, 9}, {11, 9}, {15, 9}, {Integer.MAX_VALUE, 9}};
        for (int[] row : rows) {
            e.due("at " + row[0], x.rows(row[0]), row[1]);
        }
        x.heard(0, 1, true);
        x.untell(1);
        e.due("told and untold at one time", x.rows(15), 9);
        x.heard(0, 1, true);
        e.due("at a time to come", x.rows(16), 5);
        e.due("at the last", x.rows(Integer.MAX_VALUE), 5);
    }

    private void heard() {
        e.promise(48, "A HEARD (how many 0 .. 10): its number; NONE, doing nothing, if one can't be, there are 30, or no THINGS.");
        PepperTables x = Edges.of(TWO);
        e.due("0", x.heard(0, 0, true), 0);
        e.due("10", x.heard(1, 10, false), 1);
        e.doesNothing("11", x, -1, () -> x.heard(0, 11, true));
        e.doesNothing("below 0", x, -1, () -> x.heard(0, -1, false));
        e.doesNothing("no such sack", x, -1, () -> x.heard(2, 1, true));
        for (int wrong : WRONG) {
            e.doesNothing("sack " + wrong, x, -1, () -> x.heard(wrong, 1, false));
            e.doesNothing("how many " + wrong, x, -1, () -> x.heard(0, wrong, false));
        }
        for (int i = 2; i < 30; i++) {
            e.due("heard", x.heard(1, 10, false), i);
        }
        e.doesNothing("there are 30", x, -1, () -> x.heard(0, 1, true));
        PepperTables none = Edges.of("person a;sack r;");
        e.doesNothing("no things", none, -1, () -> none.heard(0, 0, true));
        PepperTables nowhere = Edges.of("person a;person b;thing t by a to b hot 1;");
        e.doesNothing("no sacks", nowhere, -1, () -> nowhere.heard(0, 0, true));
    }

    private void untell() {
        e.promise(49, "It is UNTOLD: true; false if it is so already, or there is none such.");
        PepperTables x = Edges.of(TWO);
        e.due("none such", x.untell(0), false);
        x.heard(0, 2, true);
        e.due("none such", x.untell(1), false);
        for (int wrong : WRONG) {
            e.due("untell(" + wrong + ")", x.untell(wrong), false);
        }
        e.due("counts still", x.rows(0), 1);
        e.due("untold", x.untell(0), true);
        e.due("so already", x.untell(0), false);
        x.later(1);
        e.due("so already", x.untell(0), false);
        e.due("untold at 0", x.rows(0), 9);
        PepperTables last = Edges.of(TWO);
        for (int i = 0; i < 30; i++) {
            last.heard(0, 0, true);
        }
        e.due("the last of 30", last.untell(29), true);
        e.due("beyond 30", last.untell(30), false);
        x.store();
        e.due("of the store before", x.untell(0), false);
    }

    private void later() {
        e.promise(50, "So much later (0 .. 1000): the TIME; NONE, doing nothing, for another number, or if it would be above 100,000.");
        PepperTables x = Edges.of(TWO);
        e.due("0", x.later(0), 0);
        e.due("1000", x.later(1000), 1000);
        e.doesNothing("1001", x, -1, () -> x.later(1001));
        e.doesNothing("below 0", x, -1, () -> x.later(-1));
        e.doesNothing("the least", x, -1, () -> x.later(Integer.MIN_VALUE));
        e.doesNothing("the greatest", x, -1, () -> x.later(Integer.MAX_VALUE));
        for (int i = 2; i < 100; i++) {
            e.due("1000", x.later(1000), i * 1000);
        }
        e.due("one less", x.later(999), 99999);
        e.doesNothing("above 100,000", x, -1, () -> x.later(2));
        e.due("100,000", x.later(1), 100000);
        e.doesNothing("above 100,000", x, -1, () -> x.later(1));
        e.due("no later", x.later(0), 100000);
    }

    private void rows() {
        e.terms("ROWS: a SACK, or none, for each of these two (the last but one, the last one) by which all that counts is so.");
        PepperTables both = Edges.of("person a;person b;sack r;thing t by a to b hot 1;thing u by b to a hot 1;");
        e.due("r or none for each", both.rows(0), 4);
        both.heard(0, 1, true);
        e.due("not none for both", both.rows(0), 3);
        both.heard(0, 2, false);
        e.due("all that counts", both.rows(0), 2);
        e.promise(51, "ROWS: how many (0 without THINGS).");
        e.due("without things", Edges.of("person a;person b;sack r;").rows(0), 0);
        e.due("new", new PepperTables().rows(0), 0);
        e.due("without sacks: one row of none", Edges.of("person a;person b;thing t by a to b hot 1;").rows(0), 1);
        PepperTables x = Edges.of(TWO);
        e.due("all", x.rows(0), 9);
        x.heard(0, 0, false);
        e.due("none", x.rows(0), 0);
        e.due("all before", x.rows(-1), 9);
        Check.feed(x, "person a;person b;sack r;thing t by a to b hot 1 in r;");
        x.store();
        e.due("of another store", x.rows(0), 2);
        x.heard(0, 1, true);
        e.due("of another store", x.rows(0), 1);
        x.store();
        e.due("of an empty store", x.rows(0), 0);
    }

    private void sure() {
        e.terms("SURE of one (0: the last, 1: the last but one): the SACK, if it is the same in all.");
        PepperTables shy = Edges.of("person a;person b shy 9;sack r;sack s;thing t by a to b hot 1;thing u by b to a hot 9;");
        shy.heard(1, 1, true);
        e.due("the last may be anywhere", shy.sure(0, 0), -2);
        e.due("the last but one is in s", shy.sure(1, 0), 1);
        PepperTables few = Edges.of("person a;person b shy 9;sack r;thing t by a to b hot 1;thing u by b to a hot 9;");
        few.heard(0, 1, false);
        e.due("two rows", few.rows(0), 2);
        e.due("the last may be in r or in none", few.sure(0, 0), -2);
        e.due("the last but one is in none", few.sure(1, 0), -1);
        e.promise(52, "SURE: the SACK (-1: in none); -2 if it is not the same in all; -3 if there are no ROWS, or one can't be"
                + " (the last but one of one THING, too).");
        PepperTables x = Edges.of(TWO);
        e.due("not the same", x.sure(0, 0), -2);
        e.due("not the same", x.sure(1, 0), -2);
        x.heard(1, 2, true);
        e.due("the last", x.sure(0, 0), 1);
        e.due("the last but one", x.sure(1, 0), 1);
        x.untell(0);
        x.heard(0, 1, false);
        x.heard(1, 1, false);
        e.due("in none", x.sure(0, 0), -1);
        e.due("in none", x.sure(1, 0), -1);
        e.due("another one", x.sure(2, 0), -3);
        for (int wrong : WRONG) {
            e.due("sure(" + wrong + ", 0)", x.sure(wrong, 0), -3);
        }
        x.heard(0, 0, false);
        e.due("no rows", x.sure(0, 0), -3);
        e.due("no rows", x.sure(1, 0), -3);
        PepperTables one = Edges.of("person a;person b;thing t by a to b hot 1;");
        e.due("the one", one.sure(0, 0), -1);
        e.due("the last but one of one", one.sure(1, 0), -3);
        PepperTables none = Edges.of("sack r;");
        e.due("no things", none.sure(0, 0), -3);
        e.due("no things", none.sure(1, 0), -3);
    }

    private void ask() {
        e.terms("ASK: the SACK of which to know how many by GRINDING it, it alone, are SAID would leave the fewest of these at the most;"
                + " of like ones the first.");
        PepperTables x = Edges.of(TWO);
        e.due("of like ones the first", x.ask(0, 0), 0);
        e.due("four at the most", x.ask(1, 0), 4);
        x.heard(0, 1, false);
        e.due("s", x.ask(0, 0), 1);
        e.due("two at the most", x.ask(1, 0), 2);
        e.promise(53, "ASK what 0: the SACK, 1: how many are left at the most; NONE if there are no ROWS, no SACKS, or for another what.");
        e.due("another what", x.ask(2, 0), -1);
        for (int wrong : WRONG) {
            e.due("what " + wrong, x.ask(wrong, 0), -1);
        }
        x.heard(0, 0, false);
        e.due("no rows", x.ask(0, 0), -1);
        e.due("no rows", x.ask(1, 0), -1);
        e.due("rows before", x.ask(1, -1), 4);
        PepperTables nowhere = Edges.of("person a;person b;thing t by a to b hot 1;");
        e.due("no sacks", nowhere.ask(0, 0), -1);
        e.due("no sacks", nowhere.ask(1, 0), -1);
        PepperTables none = Edges.of("sack r;");
        e.due("no things", none.ask(0, 0), -1);
        PepperTables one = Edges.of("person a;person b;sack r;thing t by a to b hot 1 in r;");
        one.heard(0, 1, true);
        e.due("one row is left", one.ask(1, 0), 1);
        e.due("the first", one.ask(0, 0), 0);
        PepperTables mute = Edges.of("person a;person b;" + Edges.lines("sack #;", 5) + Edges.lines("thing # by a to b hot 9 in a;", 10) + "said 0;");
        e.due("nothing is learnt: the first", mute.ask(0, 0), 0);
        e.due("all are left", mute.ask(1, 0), 36);
        PepperTables ten = Edges.of("person a;person b;sack r;" + Edges.lines("thing # by a to b hot 9 in r;", 10));
        ten.heard(0, 10, true);
        for (int i = 0; i < 3; i++) {
            e.due("one, however often it is asked", ten.ask(1, 0), 1);
        }
    }
}
