/** Promises 48 to 53, and what 56 tells of them. */
public final class HeardTest {
    private static final Check CHECK = new Check("HeardTest");
    private static final String TWO = "person a;person b;sack r;sack s;thing t by a to b hot 1 in r;thing u by b to a hot 9 in r;";

    public static void main(String[] args) {
        telling();
        times();
        surely();
        asking();
        asTold();
        oneThing();
        tenThings();
        without();
        later();
        CHECK.close();
    }

    private static void telling() {
        PepperTables x = Check.of(TWO);
        CHECK.due("rows", x.rows(0), 9);
        CHECK.due("heard", x.heard(0, 1, true), 0);
        CHECK.due("rows", x.rows(0), 5);
        CHECK.due("heard", x.heard(0, 2, false), 1);
        CHECK.due("rows", x.rows(0), 4);
        CHECK.due("heard 0 at least", x.heard(1, 0, true), 2);
        CHECK.due("rows", x.rows(0), 4);
        CHECK.due("about(9)", x.about(9), 3);
        CHECK.due("no such sack", x.heard(2, 1, true), -1);
        CHECK.due("no such sack", x.heard(-1, 1, true), -1);
        CHECK.due("no such many", x.heard(0, 11, true), -1);
        CHECK.due("no such many", x.heard(0, -1, true), -1);
        CHECK.due("about(9)", x.about(9), 3);
        CHECK.due("ten", x.heard(0, 10, false), 3);
        CHECK.due("rows", x.rows(0), 4);
        CHECK.due("less than nothing", x.heard(0, 0, false), 4);
        CHECK.due("rows", x.rows(0), 0);
        CHECK.due("sure", x.sure(0, 0), -3);
        CHECK.due("ask", x.ask(0, 0), -1);
        CHECK.due("ask", x.ask(1, 0), -1);
        CHECK.due("untell", x.untell(4), true);
        CHECK.due("untell again", x.untell(4), false);
        CHECK.due("untell none", x.untell(5), false);
        CHECK.due("untell none", x.untell(-1), false);
        CHECK.due("rows", x.rows(0), 4);
        CHECK.due("an untold one keeps its number", x.about(9), 5);
        for (int i = 5; i < 30; i++) {
            CHECK.due("heard", x.heard(0, 1, true), i);
        }
        CHECK.due("thirty", x.heard(0, 1, true), -1);
        CHECK.due("about(9)", x.about(9), 30);
        x.untell(7);
        CHECK.due("thirty still", x.heard(0, 1, true), -1);
    }

    private static void times() {
        PepperTables x = Check.of(TWO);
        x.heard(0, 1, true);
        CHECK.due("later", x.later(5), 5);
        x.heard(0, 2, true);
        x.later(5);
        x.untell(0);
        x.later(1);
        x.untell(1);
        CHECK.due("before all", x.rows(-1), 9);
        CHECK.due("long before all", x.rows(Integer.MIN_VALUE), 9);
        CHECK.due("at 0", x.rows(0), 5);
        CHECK.due("at 4", x.rows(4), 5);
        CHECK.due("at 5", x.rows(5), 1);
        CHECK.due("at 9", x.rows(9), 1);
        CHECK.due("at 10", x.rows(10), 1);
        CHECK.due("at 11", x.rows(11), 9);
        CHECK.due("at the end of all", x.rows(Integer.MAX_VALUE), 9);
        CHECK.due("sure at 4", x.sure(0, 4), -2);
        CHECK.due("sure at 5", x.sure(0, 5), 0);
        x.heard(1, 1, true);
        CHECK.due("told now", x.rows(11), 5);
        CHECK.due("known at 10", x.rows(10), 1);
        CHECK.due("still so", x.rows(Integer.MAX_VALUE), 5);
        x.untell(2);
        CHECK.due("untold in the same time", x.rows(11), 9);
    }

    private static void surely() {
        PepperTables x = Check.of(TWO);
        CHECK.due("not yet", x.sure(0, 0), -2);
        CHECK.due("not yet", x.sure(1, 0), -2);
        x.heard(0, 1, false);
        x.heard(1, 1, false);
        CHECK.due("one row", x.rows(0), 1);
        CHECK.due("in none", x.sure(0, 0), -1);
        CHECK.due("in none", x.sure(1, 0), -1);
        CHECK.due("another which", x.sure(2, 0), -3);
        CHECK.due("another which", x.sure(-1, 0), -3);
        // b is too shy to tell u: its place can't be known, t's can.
        x = Check.of("person a;person b shy 9;sack r;sack s;thing t by a to b hot 1 in r;thing u by b to a hot 9 in r;");
        x.heard(1, 1, true);
        CHECK.due("rows", x.rows(0), 3);
        CHECK.due("the last", x.sure(0, 0), -2);
        CHECK.due("the last but one", x.sure(1, 0), 1);
    }

    private static void asking() {
        PepperTables x = Check.of(TWO);
        // By r: 0 of 4 rows, 1 of 4, 2 of 1.
        CHECK.due("of like ones the first", x.ask(0, 0), 0);
        CHECK.due("left", x.ask(1, 0), 4);
        CHECK.due("another what", x.ask(2, 0), -1);
        CHECK.due("another what", x.ask(-1, 0), -1);
        x.heard(0, 1, false);
        // Now r is known: by s 1, 2, 1.
        CHECK.due("s", x.ask(0, 0), 1);
        CHECK.due("left", x.ask(1, 0), 2);
        CHECK.due("as known before", x.ask(0, -1), 0);
        x.heard(1, 2, true);
        CHECK.due("one row is left by either", x.ask(0, 0), 0);
        CHECK.due("left", x.ask(1, 0), 1);
    }

    /** Of the store as it was told, all at the table, nothing ground yet, whatever was done since. */
    private static void asTold() {
        PepperTables x = Check.of("person a;person b;person c;sack r;sack s;thing t by a to b hot 1 in r;"
                + "thing u by b to a hot 2 in r;thing v by b to a hot 3 in s;said guests = 3 and ground = 0 and course = 0 and heat < 4;");
        CHECK.due("rows", x.rows(0), 9);
        x.sit(0);
        x.grind(0);
        x.course();
        x.pour(0, 1);
        x.heard(0, 1, true);
        // r: t alone 1; t, u: heat 3, both said; t, v: heat 4; all: heat 6.
        CHECK.due("v is not in r", x.rows(0), 6);
        x.heard(0, 2, true);
        CHECK.due("t and u are in r", x.rows(0), 2);
        CHECK.due("u", x.sure(1, 0), 0);
        CHECK.due("v", x.sure(0, 0), -2);
        CHECK.due("v: ask", x.ask(0, 0), 1);
        CHECK.due("v: left", x.ask(1, 0), 1);
        x.image(0);
        x.back(0);
        CHECK.due("an image has nothing of it", x.rows(0), 2);
    }

    private static void oneThing() {
        PepperTables x = Check.of("person a;person b;sack r;sack s;thing t by a to b hot 1 in r;");
        CHECK.due("rows", x.rows(0), 3);
        CHECK.due("the last", x.sure(0, 0), -2);
        CHECK.due("there is no last but one", x.sure(1, 0), -3);
        x.heard(0, 1, false);
        CHECK.due("rows", x.rows(0), 2);
        CHECK.due("ask", x.ask(0, 0), 1);
        CHECK.due("left", x.ask(1, 0), 1);
        x.heard(1, 1, true);
        CHECK.due("the last", x.sure(0, 0), 1);
        CHECK.due("ask", x.ask(0, 0), 0);
    }

    private static void tenThings() {
        StringBuilder text = new StringBuilder("person a;person b;sack r;sack s;");
        for (char c = 'a'; c < 'k'; c++) {
            text.append("thing ").append(c).append(" by a to b hot 1 in r;");
        }
        PepperTables x = Check.of(text.toString());
        CHECK.due("rows", x.rows(0), 9);
        CHECK.due("ask", x.ask(0, 0), 0);
        CHECK.due("left", x.ask(1, 0), 4);
        x.heard(0, 10, true);
        CHECK.due("rows", x.rows(0), 1);
        for (int i = 0; i < 3; i++) {
            CHECK.due("left", x.ask(1, 0), 1);
        }
        CHECK.due("the last", x.sure(0, 0), 0);
    }

    private static void without() {
        PepperTables x = Check.of("person a;person b;sack r;");
        CHECK.due("no things", x.heard(0, 0, true), -1);
        CHECK.due("rows", x.rows(0), 0);
        CHECK.due("sure", x.sure(0, 0), -3);
        CHECK.due("ask", x.ask(0, 0), -1);
        x = Check.of("person a;person b;thing t by a to b hot 1;thing u by a to b hot 1;");
        CHECK.due("no sacks", x.heard(0, 0, true), -1);
        CHECK.due("one row: in none both", x.rows(0), 1);
        CHECK.due("sure", x.sure(0, 0), -1);
        CHECK.due("sure", x.sure(1, 0), -1);
        CHECK.due("ask", x.ask(0, 0), -1);
        CHECK.due("ask", x.ask(1, 0), -1);
    }

    private static void later() {
        PepperTables x = Check.of(TWO);
        CHECK.due("later(0)", x.later(0), 0);
        CHECK.due("later(1001)", x.later(1001), -1);
        CHECK.due("later(-1)", x.later(-1), -1);
        for (int i = 1; i < 100; i++) {
            CHECK.due("later(1000)", x.later(1000), i * 1000);
        }
        CHECK.due("later(999)", x.later(999), 99999);
        CHECK.due("later(2)", x.later(2), -1);
        CHECK.due("later(1)", x.later(1), 100000);
        CHECK.due("later(1)", x.later(1), -1);
        CHECK.due("later(0)", x.later(0), 100000);
        CHECK.due("about(10)", x.about(10), 100000);
        Check.feed(x, TWO);
        x.store();
        CHECK.due("the time stays", x.about(10), 100000);
        x.heard(0, 1, true);
        CHECK.due("known before", x.rows(99999), 9);
        CHECK.due("known now", x.rows(100000), 5);
    }
}
