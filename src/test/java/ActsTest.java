/** Promises 6 to 16, 54, 55, and 56 as far as it tells of acts; the formula's rules. */
public final class ActsTest {
    private static final Check CHECK = new Check("ActsTest");
    private static final String FISH = "person ann shy 2;person bob;person cid shy 9;sack red;sack blue;"
            + "thing a by ann to bob hot 5 in red;thing b by bob to ann hot 3 in blue;thing c by cid to ann hot 9 in red;"
            + "thing d by bob to cid hot 5;sneeze 50;draw 3;";

    public static void main(String[] args) {
        whatIs();
        wrongNumbers();
        sitting();
        grinding();
        groundAtMost();
        pouring();
        courses();
        undoing();
        oldestGo();
        boxes();
        formulaOnInputs();
        formulaRules();
        aheadOfIt();
        CHECK.close();
    }

    private static void whatIs() {
        PepperTables x = Check.of(FISH);
        CHECK.due("shy", x.person(0, 0), 2);
        CHECK.due("shy untold", x.person(1, 0), 0);
        CHECK.due("kept by bob", x.person(1, 2), 10);
        CHECK.due("kept to ann", x.person(0, 3), 6);
        CHECK.due("said to ann", x.person(0, 4), 0);
        CHECK.due("by", x.thing(2, 0), 2);
        CHECK.due("to", x.thing(2, 1), 0);
        CHECK.due("hot", x.thing(2, 2), 9);
        CHECK.due("in", x.thing(1, 3), 1);
        CHECK.due("in none", x.thing(3, 3), -1);
        CHECK.due("said", x.thing(3, 4), 0);
        CHECK.due("heat", x.sack(0, 0), 14);
        CHECK.due("kept in", x.sack(0, 1), 5);
        CHECK.due("ground", x.sack(0, 2), 0);
        CHECK.due("about(15)", x.about(15), 22);
        x.sit(0);
        x.sit(1);
        CHECK.due("sits", x.person(1, 1), 1);
        CHECK.due("sits not", x.person(2, 1), 0);
        CHECK.due("would red", x.would(0), 1);
        CHECK.due("would blue", x.would(1), 2);
        x.grind(0);
        CHECK.due("said to bob", x.person(1, 4), 1);
        CHECK.due("kept to bob", x.person(1, 3), 0);
        CHECK.due("kept by ann", x.person(0, 2), 0);
        CHECK.due("said", x.thing(0, 4), 1);
        CHECK.due("it lies where it lay", x.thing(0, 3), 0);
        CHECK.due("heat", x.sack(0, 0), 9);
        CHECK.due("kept in", x.sack(0, 1), 4);
        CHECK.due("ground", x.sack(0, 2), 1);
        CHECK.due("about(15)", x.about(15), 17);
        CHECK.due("about(4)", x.about(4), 1);
    }

    private static void wrongNumbers() {
        PepperTables x = Check.of(FISH);
        int[] wrong = {-2, -1, 6, 100, Integer.MIN_VALUE, Integer.MAX_VALUE};
        for (int w : wrong) {
            CHECK.due("person(" + w + ", 0)", x.person(w, 0), -2);
            CHECK.due("person(0, " + w + ")", x.person(0, w), -2);
            CHECK.due("thing(" + w + ", 0)", x.thing(w, 0), -2);
            CHECK.due("thing(0, " + w + ")", x.thing(0, w), -2);
            CHECK.due("sack(" + w + ", 0)", x.sack(w, 0), -1);
            CHECK.due("sack(0, " + w + ")", x.sack(0, w), -1);
            CHECK.due("would(" + w + ")", x.would(w), -1);
            CHECK.due("sit(" + w + ")", x.sit(w), -1);
            CHECK.due("rise(" + w + ")", x.rise(w), -1);
            CHECK.due("grind(" + w + ")", x.grind(w), -1);
            CHECK.due("pour(" + w + ", 0)", x.pour(w, 0), -2);
            CHECK.due("image(" + w + ")", x.image(w), -1);
            CHECK.due("back(" + w + ")", x.back(w), -1);
            if (w != -1) {
                CHECK.due("pour(0, " + w + ")", x.pour(0, w), -2);
            }
        }
        CHECK.due("person(3, 0)", x.person(3, 0), -2);
        CHECK.due("person(0, 5)", x.person(0, 5), -2);
        CHECK.due("thing(4, 0)", x.thing(4, 0), -2);
        CHECK.due("thing(0, 5)", x.thing(0, 5), -2);
        CHECK.due("sack(2, 0)", x.sack(2, 0), -1);
        CHECK.due("sack(0, 3)", x.sack(0, 3), -1);
        CHECK.due("acts", x.about(7), 0);
    }

    private static void sitting() {
        PepperTables x = Check.of(FISH);
        CHECK.due("rise", x.rise(0), -1);
        CHECK.due("sit", x.sit(2), 1);
        CHECK.due("sit", x.sit(0), 2);
        CHECK.due("sit again", x.sit(0), -1);
        CHECK.due("about(3)", x.about(3), 5);
        CHECK.due("rise", x.rise(2), 1);
        CHECK.due("rise again", x.rise(2), -1);
        CHECK.due("about(3)", x.about(3), 1);
        CHECK.due("acts", x.about(7), 3);
    }

    private static void grinding() {
        PepperTables x = Check.of(FISH);
        CHECK.due("nobody sits", x.grind(0), 0);
        CHECK.due("ground", x.sack(0, 2), 1);
        x.sit(0);
        CHECK.due("one of both", x.grind(0), 0);
        x.sit(1);
        x.sit(2);
        CHECK.due("hot 9 is not above shy 9", x.grind(0), 1);
        CHECK.due("said once", x.grind(0), 0);
        CHECK.due("ground", x.sack(0, 2), 4);
        CHECK.due("other sack", x.sack(1, 2), 0);
        CHECK.due("blue", x.grind(1), 2);
        CHECK.due("about(4)", x.about(4), 3);
    }

    private static void groundAtMost() {
        PepperTables x = Check.of("person a;person b;sack s;thing t by a to b hot 1 in s;said ground > 98;");
        x.sit(0);
        x.sit(1);
        for (int i = 0; i < 99; i++) {
            CHECK.due("grind " + i, x.grind(0), 0);
        }
        CHECK.due("ground", x.sack(0, 2), 99);
        CHECK.due("grind at 99", x.grind(0), 1);
        CHECK.due("ground", x.sack(0, 2), 99);
        CHECK.due("grind at 99", x.grind(0), 0);
        CHECK.due("acts", x.about(7), 40);
        CHECK.due("undo", x.undo(), true);
        CHECK.due("said", x.about(4), 1);
        CHECK.due("undo", x.undo(), true);
        CHECK.due("said", x.about(4), 0);
        CHECK.due("ground", x.sack(0, 2), 99);
        CHECK.due("undo", x.undo(), true);
        CHECK.due("ground", x.sack(0, 2), 98);
    }

    private static void pouring() {
        PepperTables x = Check.of(FISH);
        CHECK.due("there already", x.pour(0, 0), -2);
        CHECK.due("in none already", x.pour(3, -1), -2);
        CHECK.due("to blue", x.pour(0, 1), 0);
        CHECK.due("heat", x.sack(1, 0), 8);
        CHECK.due("out", x.pour(0, -1), 1);
        CHECK.due("where", x.thing(0, 3), -1);
        CHECK.due("in", x.pour(3, 0), -1);
        CHECK.due("kept in", x.sack(0, 1), 12);
        CHECK.due("acts", x.about(7), 3);
        x.pour(0, 0);
        x.sit(0);
        x.sit(1);
        x.grind(0);
        CHECK.due("said", x.pour(0, 1), -2);
        CHECK.due("acts", x.about(7), 7);
    }

    private static void courses() {
        PepperTables x = Check.of(FISH);
        // The seeds: 3, 482, 105, 456, 543, 462, 365, 76, 483, 242, 225, ..
        int[] seeds = {482, 105, 456, 543, 462, 365, 76, 483, 242, 225};
        x.sit(1);
        int[] said = {-1, 3, -1, 1, -1, -1, -1, -1, -1, -1};
        for (int i = 0; i < seeds.length; i++) {
            CHECK.due("next " + i, x.next(), i < 2 ? 3 : i < 4 ? 1 : -1);
            CHECK.due("course " + i, x.course(), said[i]);
            CHECK.due("seed " + i, x.about(6), seeds[i]);
            CHECK.due("course is " + i, x.about(5), i + 1);
        }
        CHECK.due("said", x.about(4), 10);
        CHECK.due("acts", x.about(7), 11);
        x = Check.of("person a;person b;person c;thing t by a to b hot 4;thing u by b to a hot 7;thing v by b to c hot 7;sneeze 100;draw 999;");
        CHECK.due("nobody sits", x.course(), -1);
        CHECK.due("seed", x.about(6), (999 * 137 + 71) % 1000);
        x.sit(0);
        x.sit(1);
        CHECK.due("the first of like ones", x.course(), 1);
        CHECK.due("then the other", x.course(), 2);
        x.rise(1);
        CHECK.due("then the cooler", x.course(), 0);
        CHECK.due("then none", x.course(), -1);
        edgeOfSneeze();
    }

    private static void edgeOfSneeze() {
        // From 3 the rest is 82: a sneeze by 83, none by 82.
        String start = "person a;person b;thing t by a to b hot 4;draw 3;sneeze ";
        PepperTables x = Check.of(start + "82;");
        x.sit(0);
        CHECK.due("82 of 100", x.course(), -1);
        x = Check.of(start + "83;");
        x.sit(0);
        CHECK.due("83 of 100", x.course(), 0);
    }

    private static void undoing() {
        PepperTables x = Check.of(FISH);
        CHECK.due("nothing to undo", x.undo(), false);
        x.sit(0);
        x.sit(1);
        x.grind(0);
        x.pour(1, 0);
        x.course();
        x.course();
        CHECK.due("about(7)", x.about(7), 6);
        CHECK.due("said", x.about(4), 9);
        CHECK.due("undo the sneeze", x.undo(), true);
        CHECK.due("said", x.about(4), 1);
        CHECK.due("course", x.about(5), 1);
        CHECK.due("seed", x.about(6), 482);
        CHECK.due("undo", x.undo(), true);
        CHECK.due("seed", x.about(6), 3);
        CHECK.due("undo the pouring", x.undo(), true);
        CHECK.due("where", x.thing(1, 3), 1);
        CHECK.due("undo the grinding", x.undo(), true);
        CHECK.due("said", x.about(4), 0);
        CHECK.due("ground", x.sack(0, 2), 0);
        CHECK.due("about(7)", x.about(7), 2);
        CHECK.due("about(8)", x.about(8), 4);
        CHECK.due("redo", x.redo(), true);
        CHECK.due("said", x.about(4), 1);
        CHECK.due("ground", x.sack(0, 2), 1);
        CHECK.due("redo", x.redo(), true);
        CHECK.due("where", x.thing(1, 3), 0);
        CHECK.due("what does nothing is no act", x.sit(0), -1);
        CHECK.due("about(8)", x.about(8), 2);
        CHECK.due("another act", x.rise(0), 1);
        CHECK.due("about(8)", x.about(8), 0);
        CHECK.due("redo", x.redo(), false);
        CHECK.due("about(7)", x.about(7), 5);
        CHECK.due("undo", x.undo(), true);
        CHECK.due("about(3)", x.about(3), 3);
    }

    private static void oldestGo() {
        PepperTables x = Check.of(FISH);
        for (int i = 0; i < 45; i++) {
            x.course();
        }
        CHECK.due("about(7)", x.about(7), 40);
        for (int i = 0; i < 40; i++) {
            CHECK.due("undo " + i, x.undo(), true);
            CHECK.due("course", x.about(5), 44 - i);
            CHECK.due("redoable", x.about(8), i + 1);
        }
        CHECK.due("undo", x.undo(), false);
        CHECK.due("course", x.about(5), 5);
        for (int i = 0; i < 40; i++) {
            CHECK.due("redo " + i, x.redo(), true);
        }
        CHECK.due("redo", x.redo(), false);
        CHECK.due("course", x.about(5), 45);
        x.undo();
        x.sit(0);
        CHECK.due("about(7)", x.about(7), 40);
        CHECK.due("about(8)", x.about(8), 0);
    }

    private static void boxes() {
        PepperTables x = Check.of(FISH);
        CHECK.due("empty box", x.back(0), -1);
        x.sit(0);
        x.sit(1);
        x.course();
        CHECK.due("image", x.image(2), 1);
        x.grind(0);
        x.pour(1, -1);
        x.course();
        x.rise(0);
        CHECK.due("image", x.image(0), 2);
        CHECK.due("image is no act", x.about(7), 7);
        x.undo();
        x.line();
        CHECK.due("back", x.back(2), 1);
        CHECK.due("about(3)", x.about(3), 3);
        CHECK.due("about(4)", x.about(4), 0);
        CHECK.due("about(5)", x.about(5), 1);
        CHECK.due("about(6)", x.about(6), 482);
        CHECK.due("about(7)", x.about(7), 0);
        CHECK.due("about(8)", x.about(8), 0);
        CHECK.due("where", x.thing(1, 3), 1);
        CHECK.due("ground", x.sack(0, 2), 0);
        CHECK.due("undo", x.undo(), false);
        CHECK.due("redo", x.redo(), false);
        CHECK.due("back", x.back(0), 2);
        CHECK.due("about(3)", x.about(3), 2);
        CHECK.due("ground", x.sack(0, 2), 1);
        CHECK.due("where", x.thing(1, 3), -1);
        CHECK.due("back to nothing", x.back(1), -1);
        x.sit(2);
        CHECK.due("undo", x.undo(), true);
        CHECK.due("about(3)", x.about(3), 2);
        CHECK.due("image(3)", x.image(3), -1);
        CHECK.due("back(3)", x.back(3), -1);
        CHECK.due("image over another", x.image(2), 2);
        CHECK.due("back", x.back(2), 2);
    }

    /** One thing, hot 7, by one who is shy 2, in a sack of heat 11 that was ground 3 times, 4 guests, course 5. */
    private static void formula(String formula, int said) {
        PepperTables x = Check.of("person a shy 2;person b;person c;person d;sack r;sack s;"
                + "thing t by a to b hot 7 in s;thing u by c to d hot 4;said " + formula + ";");
        for (int i = 0; i < 3; i++) {
            x.grind(1);
        }
        for (int i = 0; i < 4; i++) {
            x.sit(i);
        }
        for (int i = 0; i < 5; i++) {
            x.course();
        }
        x.pour(1, 1);
        CHECK.due("said " + formula, x.would(1) & 1, said);
    }

    private static void equal(String formula, int value) {
        String shown = value < 0 ? "0 - " + -(long) value : "" + value;
        formula("(" + formula + ") = " + shown, 1);
    }

    private static void formulaOnInputs() {
        equal("hot", 7);
        equal("shy", 2);
        equal("guests", 4);
        equal("ground", 3);
        equal("heat", 11);
        equal("course", 5);
        equal("hot * 100 + shy * 10 + guests", 724);
    }

    private static void formulaRules() {
        equal("2 + 3 * 4", 14);
        equal("(2 + 3) * 4", 20);
        equal("10 - 4 - 3", 3);
        equal("100 / 7 / 2", 7);
        equal("100 % 7 * 2", 4);
        equal("7 / 0", 0);
        equal("7 % 0", 0);
        equal("(0 - 7) / 2", -3);
        equal("(0 - 7) % 2", -1);
        equal("7 % (0 - 2)", 1);
        equal("9999 * 9999 * 9999 * 9999 % 9973", 9999 * 9999 * 9999 * 9999 % 9973);
        formula("9999 * 9999 * 9999 < 0", 9999 * 9999 * 9999 < 0 ? 1 : 0);
        // The least int by -1: 2048 * 1024 * 1024 wraps to it.
        formula("(2048 * 1024 * 1024) / (0 - 1) = 2048 * 1024 * 1024", 1);
        equal("(2048 * 1024 * 1024) % (0 - 1)", 0);
        equal("1 < 2", 1);
        equal("2 < 1", 0);
        equal("2 > 2", 0);
        equal("3 > 2", 1);
        equal("3 = 3", 1);
        equal("3 = 4", 0);
        equal("5 and 6", 1);
        equal("5 and 0", 0);
        equal("0 or 6", 1);
        equal("0 or 0", 0);
        equal("not 5", 0);
        equal("not 0", 1);
        equal("not not 5", 1);
        equal("not 1 = 2", 1);
        equal("(not 1) = 2", 0);
        equal("1 or 0 and 0", 1);
        equal("(1 or 0) and 0", 0);
        equal("not 0 and 0", 0);
        equal("not 1 or 1", 1);
        equal("1 + 1 < 3 - 0", 1);
        formula("2", 1);
        formula("0 - 1", 1);
        formula("0", 0);
        formula("hot - 7", 0);
        formula("hot > shy", 1);
    }

    private static void aheadOfIt() {
        // All are judged by the heat and the ground there was ahead of the grinding.
        PepperTables x = Check.of("person a;person b;sack s;thing t by a to b hot 4 in s;thing u by b to a hot 5 in s;"
                + "thing v by b to a hot 1 in s;said heat = 10 and hot > 1 or heat = 1 and ground = 1;");
        x.sit(0);
        x.sit(1);
        CHECK.due("grind", x.grind(0), 3);
        CHECK.due("grind", x.grind(0), 4);
        CHECK.due("grind", x.grind(0), 0);
    }
}
