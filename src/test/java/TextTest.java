/** Promises 1 to 5, and 56 as far as it tells of the text. */
public final class TextTest {
    private static final Check CHECK = new Check("TextTest");

    public static void main(String[] args) {
        newObject();
        tape();
        storeReplaces();
        faultKeepsAll();
        cutTape();
        tokens();
        places();
        counts();
        names();
        numbers();
        formulas();
        units();
        depths();
        CHECK.close();
    }

    private static void newObject() {
        PepperTables x = new PepperTables();
        for (int what = 0; what <= 15; what++) {
            CHECK.due("new about(" + what + ")", x.about(what), 0);
        }
        CHECK.due("about(-1)", x.about(-1), -1);
        CHECK.due("about(16)", x.about(16), -1);
        CHECK.due("fault(0)", x.fault(0), 0);
        CHECK.due("fault(1)", x.fault(1), -1);
        CHECK.due("fault(2)", x.fault(2), -1);
        CHECK.due("fault(-1)", x.fault(-1), -1);
        CHECK.due("lies(0)", x.lies(0), -1);
        CHECK.due("back(0)", x.back(0), -1);
        CHECK.due("undo", x.undo(), false);
        CHECK.due("redo", x.redo(), false);
        CHECK.due("rank", x.rank(), 0);
        CHECK.due("store of nothing", x.store(), 0);
        CHECK.due("NONE", PepperTables.NONE, -1);
    }

    private static void tape() {
        PepperTables x = new PepperTables();
        for (int i = 1; i <= 80; i++) {
            CHECK.due("feed " + i, x.feed(0x20202020, 0x20202020, 0x0a0a0a0a, 0x20202020, 0x20202020), i * 20);
        }
        CHECK.due("feed beyond 1600", x.feed(1, 2, 3, 4, 5), -1);
        CHECK.due("about(11)", x.about(11), 1600);
        CHECK.due("end(1601)", x.end(1601), -1);
        CHECK.due("end(-1)", x.end(-1), -1);
        CHECK.due("end(1600)", x.end(1600), 1600);
        CHECK.due("end(1581)", x.end(1581), 1581);
        CHECK.due("feed to 1601", x.feed(1, 2, 3, 4, 5), -1);
        CHECK.due("about(11)", x.about(11), 1581);
        CHECK.due("store of blanks", x.store(), 0);
        CHECK.due("about(11)", x.about(11), 0);
        CHECK.due("end(0)", x.end(0), 0);
        CHECK.due("end(1)", x.end(1), -1);
        // The highest byte comes first, and the sign bit is only a bit.
        CHECK.due("feed", x.feed(0x7361636b, 0x2061203b, 0xff202020, 0x20202020, 0x20202020), 20);
        CHECK.due("store", x.store(), -1);
        CHECK.due("fault(0)", x.fault(0), 1);
        CHECK.due("fault(1)", x.fault(1), 8);
        CHECK.due("end(8)", x.end(8), 8);
        CHECK.due("store", x.store(), 0);
        CHECK.due("about(2)", x.about(2), 1);
        full();
    }

    private static void full() {
        StringBuilder text = new StringBuilder("sack a;");
        while (text.length() < 1599) {
            text.append(' ');
        }
        fault(text + "x", 2, 1599);
        fault(text + " ", 0, -1);
        text.setLength(1593);
        fault(text + "sack b;", 0, -1);
        fault(text + " sack b", 2, 1600);
    }

    private static void storeReplaces() {
        PepperTables x = Check.of("person a;person b;sack s;thing t by a to b hot 5 in s;sneeze 100;draw 5;");
        x.later(7);
        x.sit(0);
        x.sit(1);
        x.grind(0);
        x.course();
        x.heard(0, 1, true);
        x.image(1);
        x.line();
        CHECK.due("seed", x.about(6), 756);
        Check.feed(x, "person c shy 3;sack q;sack r;said hot;draw 12;");
        CHECK.due("store", x.store(), 0);
        int[] want = {0, 1, 2, 0, 0, 0, 12, 0, 0, 0, 7, 0, 1, 0, 0, 0};
        for (int what = 0; what < want.length; what++) {
            CHECK.due("about(" + what + ") behind a new store", x.about(what), want[what]);
        }
        CHECK.due("back(1)", x.back(1), -1);
        CHECK.due("undo", x.undo(), false);
        CHECK.due("sack ground", x.sack(0, 2), 0);
        CHECK.due("shy", x.person(0, 0), 3);
        CHECK.due("fault(0)", x.fault(0), 0);
        CHECK.due("fault(1)", x.fault(1), -1);
        // Neither the old formula nor the old sneeze is left behind.
        Check.feed(x, "person a shy 5;person b;sack s;thing t by a to b hot 5 in s;");
        CHECK.due("store", x.store(), 1);
        x.sit(0);
        x.sit(1);
        CHECK.due("would", x.would(0), 0);
        CHECK.due("about(12)", x.about(12), 0);
        CHECK.due("about(14)", x.about(14), 0);
    }

    private static void faultKeepsAll() {
        PepperTables x = Check.of("person a shy 2;person b;sack s;thing t by a to b hot 5 in s;said hot > 4;sneeze 40;draw 9;");
        x.sit(0);
        x.sit(1);
        x.undo();
        x.heard(0, 1, true);
        x.image(2);
        x.line();
        Check.feed(x, "person z;said 0;sneeze 3;bad");
        CHECK.due("store", x.store(), -1);
        CHECK.due("fault(0)", x.fault(0), 2);
        CHECK.due("fault(1)", x.fault(1), 25);
        int[] want = {1, 2, 1, 1, 0, 0, 9, 1, 1, 1, 0, 28, 2, 2, 40, 5};
        for (int what = 0; what < want.length; what++) {
            CHECK.due("about(" + what + ") behind a fault", x.about(what), want[what]);
        }
        CHECK.due("redo", x.redo(), true);
        CHECK.due("would", x.would(0), 1);
        CHECK.due("back(2)", x.back(2), 0);
        x.end(25);
        CHECK.due("store", x.store(), 0);
        CHECK.due("fault(0)", x.fault(0), 0);
        CHECK.due("about(14)", x.about(14), 3);
    }

    private static void fault(String text, int fault, int place) {
        PepperTables x = new PepperTables();
        CHECK.due("feed", Check.feed(x, text), text.length());
        int things = x.store();
        String shown = text.length() > 80 ? text.substring(0, 40) + " .. " + text.substring(text.length() - 40) : text;
        CHECK.due("store of '" + shown + "'", things == -1, fault != 0);
        CHECK.due("fault(0) of '" + shown + "'", x.fault(0), fault);
        CHECK.due("fault(1) of '" + shown + "'", x.fault(1), place);
        CHECK.due("tape behind '" + shown + "'", x.about(11), fault == 0 ? 0 : text.length());
    }

    /** What was cut off the tape is not looked at. */
    private static void cut(String text, int length, int fault, int place) {
        PepperTables x = new PepperTables();
        Check.feed(x, text);
        x.end(length);
        CHECK.due("store of the first " + length + " of '" + text + "'", x.store() == -1, fault != 0);
        CHECK.due("fault(0)", x.fault(0), fault);
        CHECK.due("fault(1)", x.fault(1), place);
    }

    private static void cutTape() {
        cut("draw 5x", 6, 2, 6);
        cut("draw 512", 6, 2, 6);
        cut("sack abc", 6, 2, 6);
        cut("sack abcdefghi", 13, 2, 13);
        cut("draw 12345", 9, 4, 5);
        cut("draw 5;?", 7, 0, -1);
        cut("draw 5;sack", 7, 0, -1);
    }

    private static void tokens() {
        fault("", 0, -1);
        fault(" \n ", 0, -1);
        fault("\t", 1, 0);
        fault("sack\ra;", 1, 4);
        fault("Sack a;", 1, 0);
        fault("sack a_b;", 1, 6);
        fault("sack a,", 1, 6);
        fault("sack \u00e4;", 1, 5);
        fault("sack " + (char) 0 + ";", 1, 5);
        fault("sack abcdefgh;", 0, -1);
        fault("sack abcdefghi;", 1, 5);
        fault("abcdefghi", 1, 0);
        fault("sack\na\n;\nsack b;", 0, -1);
        fault("sack a;sack b;", 0, -1);
        fault("person a shy9;", 0, -1);
        fault("person a shy 9;person b;", 0, -1);
        fault("draw 0999;", 0, -1);
        fault("draw 00999;", 1, 5);
        fault("draw 12345;", 1, 5);
        fault("draw 5x;", 1, 5);
        fault("draw 5 x;", 2, 7);
        fault("draw 5a;", 1, 5);
        fault("draw 5z;", 1, 5);
        fault("draw 5A;", 1, 6);
        fault("person a;person b;sack s;thing t by a to b hot 5in s;", 1, 47);
        fault("person a;person b;sack s;thing t by a to b hot5in s;", 1, 46);
        fault("person a;person b;sack s;thing t by a to b hot5 in s;", 0, -1);
        fault("said hot5;", 2, 8);
        fault("said 5hot;", 1, 5);
        fault("said 12345;", 1, 5);
        fault("said 9999;", 0, -1);
        fault("sack a1;", 2, 6);
        fault("said 1<2;", 0, -1);
        fault("said 1<=2;", 2, 7);
        fault("said 1!2;", 1, 6);
    }

    private static void places() {
        fault("sack", 2, 4);
        fault("sack  ", 2, 6);
        fault("sack a", 2, 6);
        fault("sack a sack b;", 2, 7);
        fault(";", 2, 0);
        fault("sack a;;", 2, 7);
        fault("name a;", 2, 0);
        fault("person a shy;", 2, 12);
        fault("person a shy b;", 2, 13);
        fault("person a 3;", 2, 9);
        fault("person 3;", 2, 7);
        fault("sneeze;", 2, 6);
        fault("sneeze x;", 2, 7);
        fault("draw -1;", 2, 5);
        fault("person a;person b;thing t to b by a hot 3;", 2, 26);
        fault("person a;person b;thing t by a to b;", 2, 35);
        fault("person a;person b;thing t by a to b hot;", 2, 39);
        fault("person a;person b;thing t by a to b hot 3 in;", 2, 44);
        fault("person a;person b;thing t by a to b in s hot 3;", 2, 36);
        fault("person a;person b;thing t by a to b hot 3;", 0, -1);
        fault("or a;", 2, 0);
        fault("hot 3;", 2, 0);
    }

    private static void counts() {
        String six = "person a;person b;person c;person d;person e;person f;";
        fault(six, 0, -1);
        fault(six + "person g;", 2, 54);
        fault(six + "person a;", 2, 54);
        fault(six + "person", 2, 54);
        String five = "sack a;sack b;sack c;sack d;sack e;";
        fault(five, 0, -1);
        fault(five + " sack f;", 2, 36);
        StringBuilder ten = new StringBuilder("person a;person b;");
        for (char c = 'a'; c < 'k'; c++) {
            ten.append("thing ").append(c).append(" by a to b hot 1;");
        }
        fault(ten.toString(), 0, -1);
        fault(ten + "thing k by a to b hot 1;", 2, ten.length());
        fault("said 1;said 1;", 2, 7);
        fault("sneeze 1;sneeze 1;", 2, 9);
        fault("draw 1;draw 1;", 2, 7);
        fault("draw 1;said 1;sneeze 1;", 0, -1);
    }

    private static void names() {
        String[] kept = {"person", "sack", "thing", "said", "sneeze", "draw", "by", "to", "in", "or", "and", "not",
            "hot", "shy", "guests", "ground", "heat", "course"};
        for (String word : kept) {
            fault("sack " + word + ";", 2, 5);
            fault("person a;person b;thing t by " + word + " to b hot 1;", 2, 29);
        }
        fault("sack none;sack persons;sack i;", 0, -1);
        fault("person a;person a;", 3, 16);
        fault("sack a;sack a;", 3, 12);
        fault("person a;sack a;", 0, -1);
        fault("person a;person b;thing a by a to b hot 1;thing a by a to b hot 1;", 3, 48);
        fault("person a;person b;sack a;thing a by a to b hot 1 in a;", 0, -1);
        fault("person a;person b;thing t by a to a hot 1;", 3, 34);
        fault("person a;thing t by b to b hot 1;", 5, 20);
        fault("person a;thing t by a to b hot 1;", 5, 25);
        fault("person a;thing t by a to b hot 1;person b;", 5, 25);
        fault("person a;person b;thing t by a to b hot 1 in s;", 5, 45);
        fault("person a;person b;thing t by a to b hot 1 in a;", 5, 45);
        fault("sack a;sack b;thing t by a to b hot 1;", 5, 25);
        fault("person a;person ab;person abcdefgh;person abcdefgi;", 0, -1);
    }

    private static void numbers() {
        fault("person a shy 0;person b shy 9;", 0, -1);
        fault("person a shy 10;", 4, 13);
        fault("sneeze 0;", 0, -1);
        fault("sneeze 100;", 0, -1);
        fault("sneeze 101;", 4, 7);
        fault("draw 999;", 0, -1);
        fault("draw 1000;", 4, 5);
        fault("draw 1000", 4, 5);
        String start = "person a;person b;thing t by a to b hot ";
        fault(start + "0;", 4, 40);
        fault(start + "1;", 0, -1);
        fault(start + "9;", 0, -1);
        fault(start + "10;", 4, 40);
        fault(start + "0009;", 0, -1);
        fault(start + "5 in ?", 1, 45);
    }

    private static void formulas() {
        fault("said hot;", 0, -1);
        fault("said hot", 2, 8);
        fault("said ;", 2, 5);
        fault("said", 2, 4);
        fault("said hot shy;", 2, 9);
        fault("said hot + ;", 2, 11);
        fault("said + hot;", 2, 5);
        fault("said - 1;", 2, 5);
        fault("said not;", 2, 8);
        fault("said not not 1 = 2 and not (1) or 3 * (4 - 5) % 6 / 7 < 8;", 0, -1);
        fault("said 1 + not 2;", 2, 9);
        fault("said 1 < 2 < 3;", 2, 11);
        fault("said (1 < 2) < 3;", 0, -1);
        fault("said 1 = 2 > 3;", 2, 11);
        fault("said (1;", 2, 7);
        fault("said (1", 2, 7);
        fault("said 1);", 2, 6);
        fault("said ();", 2, 6);
        fault("said 1 and;", 2, 10);
        fault("said or 1;", 2, 5);
        fault("said 1 or or 1;", 2, 10);
        fault("said name;", 2, 5);
        fault("said sneeze;", 2, 5);
        fault("said hot+shy*guests-ground/heat%course;", 0, -1);
        fault("said hot*-1;", 2, 9);
    }

    private static String times(String part, int times) {
        return part.repeat(times);
    }

    private static void units() {
        fault("said 1" + times("+1", 29) + ";", 0, -1);
        fault("said 1" + times("+1", 30) + ";", 2, 5 + 60);
        fault("said 1" + times(" and 1", 29) + ";", 0, -1);
        fault("said 1" + times(" or 1", 30) + ";", 2, 5 + 150);
        // A unit ( e ) is one, too, and all within it are in the outer e.
        fault("said (1" + times("*1", 28) + ");", 0, -1);
        fault("said (1" + times("*1", 29) + ");", 2, 6 + 58);
        fault("said 1" + times("+1", 29) + "+(1);", 2, 5 + 60);
        fault("said 1" + times("+1", 29) + "+?;", 1, 5 + 60);
        PepperTables x = Check.of("said (hot) + 2 * (3 - (1));");
        CHECK.due("about(12)", x.about(12), 7);
        x = Check.of("said not not 1 and not 2;");
        CHECK.due("about(12)", x.about(12), 2);
    }

    private static void depths() {
        fault("said " + times("(", 7) + "1" + times(")", 7) + ";", 0, -1);
        fault("said " + times("(", 8) + "1" + times(")", 8) + ";", 2, 12);
        fault("said " + times("not ", 7) + "1;", 0, -1);
        fault("said " + times("not ", 8) + "1;", 2, 5 + 28);
        fault("said " + times("not (", 3) + "not 1" + times(")", 3) + ";", 0, -1);
        fault("said " + times("not (", 3) + "not (1)" + times(")", 3) + ";", 2, 5 + 15 + 4);
        fault("said " + times("not (", 3) + "not not 1" + times(")", 3) + ";", 2, 5 + 15 + 4);
        fault("said " + times("(", 7) + "1" + times(")", 7) + " + " + times("(", 7) + "1" + times(")", 7) + ";", 0, -1);
        fault("said " + times("(", 7) + "not 1" + times(")", 7) + ";", 2, 12);
    }
}
