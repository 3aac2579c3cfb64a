/** Edges of the text: tokens, lines, faults; promises 1 to 5. */
final class TextEdges {
    private static final String TWO = "person a;person b;";
    private static final String[] WORDS = {"person", "sack", "thing", "said", "sneeze", "draw", "by", "to", "in", "or",
        "and", "not", "hot", "shy", "guests", "ground", "heat", "course"};

    private final Edges e;

    private TextEdges(Edges edges) {
        e = edges;
    }

    static void play(Edges edges) {
        TextEdges t = new TextEdges(edges);
        t.texts();
        t.signs();
        t.tokens();
        t.names();
        t.people();
        t.sacks();
        t.things();
        t.onceEach();
        t.units();
        t.within();
        t.places();
        t.faults();
        t.told();
        t.newObject();
        t.tape();
        t.store();
        t.lastFault();
    }

    private static String filled(String text, int length) {
        return text + " ".repeat(length - text.length());
    }

    private void texts() {
        e.terms("A STORE is a text of at most 1,600 bytes (empty at first)");
        e.fault("", 0, -1);
        e.fault(filled("sack a;", 1593) + "sack b;", 0, -1);
        e.fault(filled("sack a;", 1593) + "sack b ", 2, 1600);
        e.fault(filled("sack a;", 1599) + "?", 1, 1599);
        e.due("things at first", new PepperTables().about(0), 0);
    }

    private void signs() {
        e.terms("words (a .. z, 8 at most)");
        e.fault("sack az;", 0, -1);
        e.fault("sack `;", 1, 5);
        e.fault("sack {;", 1, 5);
        e.fault("sack A;", 1, 5);
        e.fault("sack Z;", 1, 5);
        e.fault("sack abcdefgh;", 0, -1);
        e.fault("sack abcdefghi;", 1, 5);
        e.fault("sack " + "z".repeat(1594) + ";", 1, 5);
        e.terms("N (1 to 4 digits)");
        e.fault("said 0;", 0, -1);
        e.fault("said 9999;", 0, -1);
        e.fault("said 0000;", 0, -1);
        e.fault("said 00000;", 1, 5);
        e.fault("said 10000;", 1, 5);
        e.fault("said 99999999999999999999;", 1, 5);
        e.fault("said :;", 1, 5);
        e.terms("signs ; ( ) < > = + - * / %");
        for (int sign = 0; sign < 256; sign++) {
            boolean blank = sign == 32 || sign == 10;
            boolean token = sign >= 'a' && sign <= 'z' || sign >= '0' && sign <= '9' || ";()<>=+-*/%".indexOf(sign) >= 0;
            e.fault("" + (char) sign, blank ? 0 : token ? 2 : 1, blank ? -1 : 0);
        }
    }

    private void tokens() {
        e.terms("blanks (32, 10) part them or not");
        e.fault("sack\na\n;\n\n sack b;", 0, -1);
        e.fault("said(1)+(2)*3<4;sack a;", 0, -1);
        e.fault("person a shy9;sack b;", 0, -1);
        e.fault("sack\ta;", 1, 4);
        e.fault("sack\ra;", 1, 4);
        e.fault("sa ck a;", 2, 0);
        e.fault("draw 1 2;", 2, 7);
        e.terms("each is as long as can be");
        e.fault("sacka;", 2, 0);
        e.fault("said hotshy;", 2, 5);
        e.fault("sack sacks;", 0, -1);
        e.fault("said 12;", 0, -1);
        e.terms("no letter directly behind an N");
        e.fault("draw 5a;", 1, 5);
        e.fault("draw 12z;", 1, 5);
        e.fault("said 1and 2;", 1, 5);
        e.fault("said 1 and 2;", 0, -1);
        e.fault("said 1and", 1, 5);
        e.fault("sack a1;", 2, 6);
    }

    private void names() {
        e.terms("Words that stand for themselves here are no NAMES.");
        for (String word : WORDS) {
            e.fault("person " + word + ";", 2, 7);
            e.fault("sack " + word + ";", 2, 5);
            e.fault(TWO + "thing " + word + " by a to b hot 1;", 2, 24);
            e.fault(TWO + "thing t by " + word + " to b hot 1;", 2, 29);
            e.fault(TWO + "thing t by a to " + word + " hot 1;", 2, 34);
            e.fault(TWO + "thing t by a to b hot 1 in " + word + ";", 2, 45);
            e.fault("sack x" + word.substring(1) + ";", 0, -1);
        }
    }

    private void people() {
        e.terms("At most 6 PEOPLE");
        String six = Edges.lines("person #;", 6);
        e.fault(six, 0, -1);
        e.due("people", Check.of(six).about(1), 6);
        e.fault(six + "person g;", 2, 54);
        e.terms("(shy 0 .. 9, 0 if not told)");
        PepperTables x = Check.of("person a shy 0;person b shy 9;person c;");
        e.due("0", x.person(0, 0), 0);
        e.due("9", x.person(1, 0), 9);
        e.due("not told", x.person(2, 0), 0);
        e.fault("person a shy 10;", 4, 13);
        e.fault("person a shy 9999;", 4, 13);
    }

    private void sacks() {
        e.terms("5 SACKS");
        String five = Edges.lines("sack #;", 5);
        e.fault(five, 0, -1);
        e.due("sacks", Check.of(five).about(2), 5);
        e.fault(five + "sack f;", 2, 35);
    }

    private void things() {
        e.terms("10 THINGS");
        String ten = TWO + Edges.lines("thing # by a to b hot 1;", 10);
        e.fault(ten, 0, -1);
        e.due("things", Check.of(ten).about(0), 10);
        e.fault(ten + "thing k by a to b hot 1;", 2, ten.length());
        e.terms("(by one of the PEOPLE, to another one, both told ahead; hot 1 .. 9; in a SACK told ahead, else in none)");
        PepperTables x = Check.of(TWO + "sack s;thing t by b to a hot 1 in s;thing u by a to b hot 9;");
        e.due("by", x.thing(0, 0), 1);
        e.due("to", x.thing(0, 1), 0);
        e.due("hot 1", x.thing(0, 2), 1);
        e.due("in", x.thing(0, 3), 0);
        e.due("hot 9", x.thing(1, 2), 9);
        e.due("in none", x.thing(1, 3), -1);
        e.fault(TWO + "thing t by a to b hot 0;", 4, 40);
        e.fault(TWO + "thing t by a to b hot 10;", 4, 40);
        e.fault(TWO + "thing t by a to a hot 1;", 3, 34);
        e.fault("person a;thing t by a to b hot 1;person b;", 5, 25);
        e.fault("person b;thing t by a to b hot 1;person a;", 5, 20);
        e.fault(TWO + "thing t by a to b hot 1 in s;sack s;", 5, 45);
        e.terms("numbered as told, each sort by itself");
        x = Check.of("sack r;person a shy 1;sack s;person b shy 2;thing t by b to a hot 3 in s;person c shy 4;");
        e.due("the third", x.person(2, 0), 4);
        e.due("by", x.thing(0, 0), 1);
        e.due("in", x.thing(0, 3), 1);
    }

    private void onceEach() {
        e.terms("said, sneeze (0 .. 100 of 100; 0), draw (0 .. 999; 0) once each");
        e.fault("sneeze 0;draw 0;said 0;", 0, -1);
        e.fault("said 1;sneeze 100;draw 999;", 0, -1);
        e.fault("sneeze 101;", 4, 7);
        e.fault("draw 1000;", 4, 5);
        e.fault("said 1;said 1;", 2, 7);
        e.fault("sneeze 0;sneeze 0;", 2, 9);
        e.fault("draw 0;draw 0;", 2, 7);
        PepperTables x = Check.of("sneeze 100;draw 999;");
        e.due("sneeze", x.about(14), 100);
        e.due("seed", x.about(6), 999);
        x = Check.of("sack s;");
        e.due("sneeze untold", x.about(14), 0);
        e.due("seed untold", x.about(6), 0);
    }

    private void units() {
        e.terms("60 units in all, 30 in one e");
        e.fault("said 1" + "+1".repeat(29) + ";", 0, -1);
        e.fault("said 1" + "+1".repeat(30) + ";", 2, 65);
        e.fault("said 1" + "*1".repeat(30) + ";", 2, 65);
        e.fault("said 1" + " or 1".repeat(29) + ";", 0, -1);
        e.fault("said 1" + " or 1".repeat(30) + ";", 2, 155);
        e.fault("said 1" + " and 1".repeat(30) + ";", 2, 185);
        e.fault("said 1" + "=1 or 1".repeat(14) + "=1;", 0, -1);
        e.fault("said 1" + "=1 or 1".repeat(15) + ";", 2, 110);
        e.due("units", Check.of("said 1" + "+1".repeat(29) + ";").about(12), 30);
        // An inner e's units are in the outer one, too, and ( e ) is a unit itself.
        e.fault("said (1" + "+1".repeat(28) + ");", 0, -1);
        e.fault("said (1" + "+1".repeat(29) + ");", 2, 64);
        e.fault("said " + "(1)+".repeat(14) + "(1);", 0, -1);
        e.fault("said " + "(1)+".repeat(15) + "1;", 2, 65);
        e.due("units", Check.of("said ((1)+2);").about(12), 4);
    }

    private void within() {
        e.terms("(a unit ( e ), or a one behind not, within 6 others at most)");
        e.fault("said " + "(".repeat(7) + "1" + ")".repeat(7) + ";", 0, -1);
        e.fault("said " + "(".repeat(8) + "1" + ")".repeat(8) + ";", 2, 12);
        e.fault("said " + "not ".repeat(7) + "1;", 0, -1);
        e.fault("said " + "not ".repeat(8) + "1;", 2, 33);
        e.fault("said " + "not (".repeat(3) + "(1" + ")".repeat(4) + ";", 0, -1);
        e.fault("said " + "not (".repeat(3) + "not 1" + ")".repeat(3) + ";", 0, -1);
        e.fault("said " + "(not ".repeat(3) + "not not 1" + ")".repeat(3) + ";", 2, 24);
        e.fault("said " + "(not ".repeat(3) + "not (1)" + ")".repeat(3) + ";", 2, 24);
        // What is closed again is within no more.
        e.fault("said " + "(".repeat(7) + "1" + ")".repeat(7) + "-" + "(".repeat(7) + "1" + ")".repeat(7) + ";", 0, -1);
        e.fault("said " + "not ".repeat(7) + "1 and " + "not ".repeat(7) + "1;", 0, -1);
    }

    private void places() {
        e.terms("FAULTS, the first by its place (bytes from 0; the end: the text's length), at one place the least");
        e.fault("?", 1, 0);
        e.fault("sack a;sack a;?", 3, 12);
        e.fault("sack a;?sack a;", 1, 7);
        e.fault("person a shy 10;sneeze 101;", 4, 13);
        e.fault("sack", 2, 4);
        e.fault("sack \n ", 2, 7);
        e.fault("sack a;sack b", 2, 13);
        e.fault("said 1" + "+1".repeat(29) + "+?;", 1, 65);
        e.fault("said 1" + "+1".repeat(29) + "+", 2, 65);
        e.fault(Edges.lines("person #;", 6) + "person a;", 2, 54);
        e.fault(Edges.lines("person #;", 6) + "person ?", 2, 54);
    }

    private void faults() {
        e.terms("1 no TOKEN; 2 one that can't stand there");
        e.fault("sack a!", 1, 6);
        e.fault("sack a,b;", 1, 6);
        e.fault("sack a b;", 2, 7);
        e.fault("sack 1;", 2, 5);
        e.fault("said 1 = 1 = 1;", 2, 11);
        e.fault("said 1 + not 1;", 2, 9);
        e.fault("said -1;", 2, 5);
        e.fault("said;", 2, 4);
        e.fault(";", 2, 0);
        e.terms("(one of a sort too many or a second time: at the line's first word; a unit too many, what is within 7 others:"
                + " at its first TOKEN, or the not)");
        e.fault(" " + Edges.lines("sack #;", 5) + " sack f;", 2, 37);
        e.fault("said 1; said 2;", 2, 8);
        e.fault("said 1" + "+1".repeat(29) + "+ (1);", 2, 66);
        e.fault("said " + "(".repeat(7) + " (1)" + ")".repeat(7) + ";", 2, 13);
        e.fault("said " + "(".repeat(7) + " not 1" + ")".repeat(7) + ";", 2, 13);
        e.terms("3 a NAME told already (of its sort), by and to one and the same (at the second NAME)");
        e.fault("person a;person a;", 3, 16);
        e.fault("sack a;sack b;sack a;", 3, 19);
        e.fault(TWO + "thing t by a to b hot 1;thing t by a to b hot 1;", 3, 48);
        e.fault(TWO + "sack a;thing a by a to b hot 1 in a;", 0, -1);
        e.fault(TWO + "thing t by b to b hot 1;", 3, 34);
        e.terms("4 a number that can't be; 5 a NAME that none of the PEOPLE, no SACK has");
        e.fault("person a shy 10", 4, 13);
        e.fault("sneeze 999;", 4, 7);
        e.fault("sack a;sack b;thing t by a to b hot 1;", 5, 25);
        e.fault("person a;sack b;thing t by a to b hot 1;", 5, 32);
        e.fault(TWO + "thing t by a to b hot 1 in a;", 5, 45);
        e.fault("thing t by t to t hot 1;", 5, 11);
    }

    private void told() {
        e.terms("Some of the PEOPLE SIT at the table (none at first). A THING is KEPT (at first), or SAID;"
                + " it lies in a SACK, or in none. A SACK was GROUND so often (0 at first)");
        PepperTables x = Check.of(TWO + "sack s;thing t by a to b hot 5 in s;thing u by b to a hot 4;");
        e.due("who sits", x.about(3), 0);
        e.due("what is said", x.about(4), 0);
        e.due("in a sack", x.thing(0, 3), 0);
        e.due("in none", x.thing(1, 3), -1);
        e.due("ground", x.sack(0, 2), 0);
    }

    private void newObject() {
        e.promise(1, "An empty STORE.");
        PepperTables x = new PepperTables();
        for (int what = 0; what <= 15; what++) {
            e.due("about(" + what + ")", x.about(what), 0);
        }
        e.due("no person", x.person(0, 0), -2);
        e.due("no thing", x.thing(0, 0), -2);
        e.due("no sack", x.sack(0, 0), -1);
        e.due("no box", x.back(0), -1);
        e.due("no number", x.lies(0), -1);
        e.due("nothing to undo", x.undo(), false);
        e.due("nothing to redo", x.redo(), false);
    }

    private void tape() {
        e.promise(2, "Twenty bytes come behind those on the TAPE, of each number the highest first: how many there are;");
        PepperTables x = new PepperTables();
        e.due("feed", x.feed(0x7361636b, 0x20613b73, 0x61636b20, 0x623b7361, 0x636b2063), 20);
        e.due("feed", x.feed(0x3b20200a, 0x200a2020, 0x20202020, 0x20202020, 0xff202020), 40);
        e.due("store", x.store(), -1);
        e.due("the highest bit is only a bit", x.fault(0), 1);
        e.due("its place", x.fault(1), 36);
        e.due("end", x.end(36), 36);
        e.due("store", x.store(), 0);
        e.due("three sacks", x.about(2), 3);
        e.promise(2, "NONE, and nothing comes, if there would be more than 1,600.");
        for (int i = 1; i <= 80; i++) {
            e.due("feed " + i, x.feed(0x20202020, 0x20202020, 0x20202020, 0x20202020, 0x20202020), 20 * i);
        }
        e.doesNothing("feed to 1620", x, -1, () -> x.feed(0, 0, 0, 0, 0));
        e.due("end", x.end(1581), 1581);
        e.doesNothing("feed to 1601", x, -1, () -> x.feed(0, 0, 0, 0, 0));
        e.due("blanks still", x.store(), 0);
        ends();
    }

    private void ends() {
        e.promise(3, "The TAPE has its first n bytes: n; NONE, doing nothing, if it has not so many, or n is below 0.");
        PepperTables x = new PepperTables();
        e.due("nothing of nothing", x.end(0), 0);
        e.doesNothing("one of nothing", x, -1, () -> x.end(1));
        Check.feed(x, "sack a;sack b;sack c");
        e.due("all", x.end(20), 20);
        e.doesNothing("one too many", x, -1, () -> x.end(21));
        e.doesNothing("below 0", x, -1, () -> x.end(-1));
        e.doesNothing("the least", x, -1, () -> x.end(Integer.MIN_VALUE));
        e.doesNothing("the greatest", x, -1, () -> x.end(Integer.MAX_VALUE));
        e.due("the first", x.end(14), 14);
        e.doesNothing("what is gone", x, -1, () -> x.end(15));
        e.due("store", x.store(), 0);
        e.due("two sacks", x.about(2), 2);
        Check.feed(x, "sack z;");
        e.due("none", x.end(0), 0);
        e.due("store", x.store(), 0);
        e.due("no sack", x.about(2), 0);
    }

    private void store() {
        e.promise(4, "The TAPE (empty then) is the STORE (all as told, nobody SITS, course 0, no ACTS are kept, nothing is HEARD,"
                + " nothing lies there, BOXES are empty then; the TIME stays): how many THINGS;");
        String text = TWO + "sack s;thing t by a to b hot 5 in s;sneeze 100;draw 7;";
        PepperTables x = busy(text);
        Check.feed(x, text);
        e.due("store", x.store(), 1);
        int[] want = {1, 2, 1, 0, 0, 0, 7, 0, 0, 0, 300, 0, 0, 0, 100, 5};
        for (int what = 0; what < want.length; what++) {
            e.due("about(" + what + ")", x.about(what), want[what]);
        }
        e.due("where it was told", x.thing(0, 3), 0);
        e.due("not ground", x.sack(0, 2), 0);
        for (int box = 0; box < 3; box++) {
            e.due("box", x.back(box), -1);
        }
        e.due("nothing lies there", x.lies(0), -1);
        e.due("nothing to undo", x.undo(), false);
        e.due("nothing to redo", x.redo(), false);
        e.due("an empty tape is a store", x.store(), 0);
        e.due("people", x.about(1), 0);
        staysBehind();
        e.promise(4, "NONE: a FAULT (all stays).");
        PepperTables y = busy(text);
        Check.feed(y, "person z;sack q;said 0;?");
        e.due("store", y.store(), -1);
        int[] stays = {1, 2, 1, 2, 0, 1, 30, 5, 1, 1, 300, 24, 0, 2, 100, 5};
        for (int what = 0; what < stays.length; what++) {
            e.due("about(" + what + ")", y.about(what), stays[what]);
        }
        e.doesNothing("the tape stays, too", y, -1, y::store);
        e.due("lies", y.lies(1), 1);
        e.due("box", y.back(1), 0);
        e.due("fault", y.fault(0), 1);
    }

    /** Nothing of an older store, or of one that had a fault, is in a later one, however many come. */
    private void staysBehind() {
        PepperTables x = new PepperTables();
        String full = Edges.lines("person # shy 7;", 6) + Edges.lines("sack #;", 5) + Edges.lines("thing # by b to a hot 3 in e;", 10)
                + "said not not (0 or 0) and 0;sneeze 90;draw 88;";
        String small = "person a;person b;sack s;thing t by a to b hot 1;";
        for (int i = 0; i < 9; i++) {
            Check.feed(x, full + (i % 3 == 1 ? "?" : ""));
            e.due("store", x.store(), i % 3 == 1 ? -1 : 10);
            x.end(0);
            for (int again = 0; again <= i % 4; again++) {
                Check.feed(x, small);
                e.due("store", x.store(), 1);
                e.due("shy", x.person(1, 0), 0);
                e.due("by", x.thing(0, 0), 0);
                e.due("in none", x.thing(0, 3), -1);
                e.due("rows", x.rows(0), 2);
                e.due("units", x.about(12), 0);
                e.due("sneeze", x.about(14), 0);
                e.due("seed", x.about(6), 0);
                e.due("kept", x.person(0, 2), 1);
                x.sit(0);
                x.sit(1);
                x.pour(0, 0);
                e.due("hot > shy", x.grind(0), 1);
            }
        }
    }

    /** Something of all that a store takes away. */
    private static PepperTables busy(String text) {
        PepperTables x = Edges.of(text, 0, 1);
        x.later(300);
        x.heard(0, 1, true);
        for (int box = 0; box < 3; box++) {
            x.image(box);
        }
        x.pour(0, -1);
        x.rise(0);
        x.course();
        x.sit(0);
        x.undo();
        x.line();
        return x;
    }

    private void lastFault() {
        e.promise(5, "Of the latest store() what 0: its FAULT (0), 1: its place (NONE). NONE for another what.");
        PepperTables x = new PepperTables();
        e.due("ahead of all", x.fault(0), 0);
        e.due("ahead of all", x.fault(1), -1);
        Check.feed(x, "?");
        e.due("ahead of it", x.fault(0), 0);
        x.store();
        e.due("fault", x.fault(0), 1);
        e.due("place", x.fault(1), 0);
        e.due("another what", x.fault(2), -1);
        e.due("another what", x.fault(-1), -1);
        e.due("another what", x.fault(Integer.MAX_VALUE), -1);
        x.end(0);
        e.due("of the latest", x.fault(0), 1);
        x.store();
        e.due("none now", x.fault(0), 0);
        e.due("no place", x.fault(1), -1);
    }
}
