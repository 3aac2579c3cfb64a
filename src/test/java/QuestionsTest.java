/** Promises 17 to 47: answers worked out by hand, the document's edges, and wrong numbers. */
public final class QuestionsTest {
    private static final Check CHECK = new Check("QuestionsTest");

    /** Four people; red holds love and debt, blue lie and joke, and sin lies in none; green is empty. */
    private static final String FISH = "person ann;person bob shy 4;person cid shy 7;person dot shy 1;"
            + "sack red;sack blue;sack green;"
            + "thing love by ann to bob hot 5 in red;thing debt by bob to ann hot 3 in red;"
            + "thing lie by bob to cid hot 8 in blue;thing joke by cid to ann hot 9 in blue;thing sin by ann to cid hot 2;";

    public static void main(String[] args) {
        tables();
        tablesByGuests();
        rounds();
        roundsOfLikeOnes();
        mutes();
        fewestSacks();
        sends();
        hides();
        hideAmongNine();
        pairsAndRumours();
        gains();
        feasts();
        shyests();
        linesOfPeople();
        invites();
        blends();
        exchanges();
        afters();
        keepers();
        sparksAndSpines();
        idleAndStorm();
        singles();
        laws();
        oddsOfNoSneeze();
        wrongNumbers();
        nothingIsDone();
        CHECK.close();
    }

    private static PepperTables fish(int... sitting) {
        PepperTables x = Check.of(FISH);
        for (int person : sitting) {
            x.sit(person);
        }
        return x;
    }

    private static PepperTables of(String text, int... sitting) {
        PepperTables x = Check.of(text);
        for (int person : sitting) {
            x.sit(person);
        }
        return x;
    }

    private static void lie(PepperTables x, int... numbers) {
        CHECK.due("numbers that lie there", x.about(13), numbers.length);
        for (int i = 0; i < numbers.length; i++) {
            CHECK.due("lies(" + i + ")", x.lies(i), numbers[i]);
        }
        CHECK.due("lies beyond", x.lies(numbers.length), -1);
        CHECK.due("lies(-1)", x.lies(-1), -1);
    }

    private static void tables() {
        PepperTables x = fish(3);
        CHECK.due("nothing said", x.table(0, 0, 0), 0);
        CHECK.due("nothing said", x.table(0, 0, 1), 0);
        CHECK.due("love", x.table(1, 0, 0), 2);
        CHECK.due("love", x.table(1, 0, 1), 3);
        CHECK.due("debt never", x.table(2, 0, 0), -1);
        CHECK.due("lie", x.table(4, 1, 1), 6);
        CHECK.due("joke", x.table(8, 1, 1), 5);
        CHECK.due("both", x.table(12, 1, 0), 3);
        CHECK.due("both", x.table(12, 1, 1), 7);
        CHECK.due("in another sack", x.table(1, 1, 0), -1);
        CHECK.due("in none", x.table(16, 0, 0), -1);
        CHECK.due("no such thing", x.table(32, 0, 0), -1);
        CHECK.due("no such things", x.table(-1, 0, 0), -1);
        CHECK.due("no such things", x.table(Integer.MIN_VALUE, 0, 0), -1);
        CHECK.due("no such sack", x.table(0, 3, 0), -1);
        CHECK.due("no such sack", x.table(0, -1, 0), -1);
        CHECK.due("no such what", x.table(0, 0, 2), -1);
        CHECK.due("no such what", x.table(0, 0, -1), -1);
        x.sit(0);
        x.sit(1);
        x.grind(0);
        CHECK.due("said already", x.table(1, 0, 0), -1);
    }

    private static void tablesByGuests() {
        // Just when four sit; of the two others any two: the least set has the lowest numbers.
        PepperTables x = of("person a;person b;person c;person d;person e;person f;sack s;"
                + "thing t by e to b hot 1 in s;thing u by a to c hot 2 in s;said guests = 4;");
        CHECK.due("t alone", x.table(1, 0, 1), 0b011011);
        CHECK.due("u alone", x.table(2, 0, 1), 0b001111);
        CHECK.due("both", x.table(3, 0, 1), 0b010111);
        CHECK.due("both", x.table(3, 0, 0), 4);
    }

    private static void rounds() {
        PepperTables x = fish(0, 1, 2);
        CHECK.due("round(0, 0)", x.round(0, 0), 0);
        lie(x);
        CHECK.due("round(0, 1)", x.round(0, 1), 0);
        CHECK.due("round(1, 0)", x.round(1, 0), 2);
        lie(x, 1);
        CHECK.due("round(1, 1)", x.round(1, 1), 17);
        CHECK.due("round(2, 0)", x.round(2, 0), 3);
        lie(x, 0, 1);
        CHECK.due("round(4, 1)", x.round(4, 1), 22);
        lie(x, 0, 0, 0, 1);
        CHECK.due("round(5, 0)", x.round(5, 0), -1);
        lie(x);
        x.line();
        CHECK.due("round(-1, 0)", x.round(-1, 0), -1);
        lie(x);
        x.line();
        CHECK.due("round(1, 2)", x.round(1, 2), -1);
        lie(x);
        x.line();
        CHECK.due("round(1, -1)", x.round(1, -1), -1);
        lie(x);
        x = of("person a;person b;thing t by a to b hot 1;", 0, 1);
        x.line();
        CHECK.due("without sacks", x.round(0, 0), -1);
        lie(x);
    }

    private static void roundsOfLikeOnes() {
        PepperTables x = of("person a;person b;sack r;sack s;sack t;thing i by a to b hot 2 in r;thing j by a to b hot 3 in t;"
                + "thing k by b to a hot 3 in s;", 0, 1);
        CHECK.due("the hotter, then the first", x.round(1, 1), 3);
        lie(x, 1);
        CHECK.due("two", x.round(2, 1), 6);
        lie(x, 1, 2);
        // More come before hotter: the mild ones of r come by the second grinding of it.
        x = of("person a;person b;sack r;sack s;thing i by a to b hot 1 in r;thing j by a to b hot 1 in r;"
                + "thing k by b to a hot 9 in s;said hot > 5 or ground > 0;", 0, 1);
        CHECK.due("one", x.round(1, 1), 9);
        lie(x, 1);
        CHECK.due("two", x.round(2, 0), 2);
        lie(x, 0, 0);
        CHECK.due("two", x.round(2, 1), 2);
        CHECK.due("three", x.round(3, 0), 3);
        lie(x, 0, 0, 1);
        CHECK.due("three", x.round(3, 1), 11);
        CHECK.due("nothing said at an empty table", of(FISH).round(4, 0), 0);
    }

    private static void mutes() {
        PepperTables x = fish();
        CHECK.due("debt and sin", x.mute(), 0b10010);
        x.pour(4, 1);
        CHECK.due("debt", x.mute(), 0b00010);
        x.sit(0);
        x.sit(1);
        x.grind(0);
        CHECK.due("what is said is not mute", x.mute(), 0b00010);
        x = of("person a;person b;person c;sack s;thing t by a to b hot 1 in s;thing u by a to b hot 2 in s;"
                + "said guests = 3 and hot = 1 or guests = 1 or ground = 1;");
        CHECK.due("u", x.mute(), 2);
        x.grind(0);
        CHECK.due("none now", x.mute(), 0);
    }

    private static void fewestSacks() {
        PepperTables x = fish(0, 1, 2);
        CHECK.due("how many", x.fewest(0), 2);
        CHECK.due("which", x.fewest(1), 3);
        CHECK.due("what", x.fewest(2), 13);
        CHECK.due("another what", x.fewest(3), -1);
        CHECK.due("another what", x.fewest(-1), -1);
        x.grind(0);
        CHECK.due("how many", x.fewest(0), 1);
        CHECK.due("which", x.fewest(1), 2);
        CHECK.due("what", x.fewest(2), 12);
    }

    private static void sends() {
        PepperTables x = fish(0, 1, 2, 3);
        CHECK.due("red", x.send(0, 0), 1);
        CHECK.due("red", x.send(0, 1), 1);
        CHECK.due("blue", x.send(1, 0), 1);
        CHECK.due("blue", x.send(1, 1), 4);
        CHECK.due("green", x.send(2, 0), 0);
        CHECK.due("green", x.send(2, 1), 0);
        CHECK.due("no such sack", x.send(3, 0), -1);
        CHECK.due("no such what", x.send(0, 2), -1);
        // By one or two less the others speak: three are to go.
        x = of("person a;person b;person c;person d;sack s;thing t by a to b hot 1 in s;thing u by c to d hot 1 in s;"
                + "said guests > 1;", 0, 1, 2, 3);
        CHECK.due("one of each", x.send(0, 0), 2);
        CHECK.due("one of each", x.send(0, 1), 5);
        // Sending away makes it worse at first.
        x = of("person a;person b;person c;person d;sack s;thing t by a to b hot 1 in s;thing u by c to d hot 1 in s;"
                + "thing v by a to c hot 1 in s;said guests = 4 or guests = 2;", 0, 1, 2, 3);
        CHECK.due("one is enough", x.send(0, 1), 1);
    }

    private static void hides() {
        PepperTables x = fish(0, 1, 2);
        CHECK.due("love is heard everywhere", x.hide(0, 0), -1);
        CHECK.due("love is heard everywhere", x.hide(0, 1), -1);
        CHECK.due("debt", x.hide(1, 0), 2);
        CHECK.due("debt", x.hide(1, 1), 0);
        CHECK.due("sin by ann, who is not shy", x.hide(4, 0), -1);
        CHECK.due("no such thing", x.hide(5, 0), -1);
        CHECK.due("no such thing", x.hide(-1, 0), -1);
        CHECK.due("no such what", x.hide(1, 2), -1);
        x.grind(0);
        CHECK.due("said", x.hide(0, 0), -1);
        // As it is: 1 other. In the other sack two others.
        x = of("person a;person b;sack r;sack s;thing t by a to b hot 1 in r;thing u by b to a hot 5 in r;"
                + "thing v by a to b hot 6 in s;thing w by a to b hot 7 in s;thing z by a to b hot 2;said hot > 2;", 0, 1);
        CHECK.due("where it is", x.hide(0, 0), 0);
        CHECK.due("others", x.hide(0, 1), 1);
        CHECK.due("one that lies in none", x.hide(4, 0), 0);
        // Its own heat counts where it would lie.
        x = of("person a;person b;sack r;sack s;thing t by a to b hot 4 in r;thing u by b to a hot 5 in s;said heat < 8;", 0, 1);
        CHECK.due("with the other one the sack is too hot", x.hide(0, 0), 1);
        CHECK.due("others", x.hide(0, 1), 0);
        x = of("person a;person b;thing t by a to b hot 4;", 0, 1);
        CHECK.due("no sacks", x.hide(0, 0), -1);
    }

    private static void hideAmongNine() {
        StringBuilder text = new StringBuilder("person a;person b;sack r;said hot > 1;");
        for (char c = 'a'; c < 'k'; c++) {
            text.append("thing ").append(c).append(" by a to b hot ").append(c == 'd' ? 1 : 2).append(" in r;");
        }
        PepperTables x = of(text.toString(), 0, 1);
        CHECK.due("where it is", x.hide(3, 0), 0);
        CHECK.due("nine others", x.hide(3, 1), 9);
        CHECK.due("one of these", x.hide(0, 1), -1);
    }

    private static void pairsAndRumours() {
        PepperTables x = of("person a;person b;person c;person d;sack r;sack s;thing i by a to b hot 1 in r;thing j by b to a hot 1 in r;"
                + "thing k by b to c hot 1 in r;thing l by c to d hot 1 in s;thing m by a to d hot 1;thing n by a to b hot 2 in r;", 0, 1, 2, 3);
        CHECK.due("none yet", x.pairs(), 0);
        CHECK.due("none leads there", x.rumour(0, 1), -1);
        CHECK.due("one and the same", x.rumour(3, 3), 0);
        x.grind(0);
        CHECK.due("a and b, once", x.pairs(), 1);
        CHECK.due("a to b", x.rumour(0, 1), 1);
        CHECK.due("b to a", x.rumour(1, 0), 1);
        CHECK.due("a to c", x.rumour(0, 2), 2);
        CHECK.due("c to a", x.rumour(2, 0), -1);
        CHECK.due("a to d", x.rumour(0, 3), -1);
        x.grind(1);
        CHECK.due("a to d", x.rumour(0, 3), 3);
        CHECK.due("d to a", x.rumour(3, 0), -1);
        x.pour(4, 1);
        x.grind(1);
        CHECK.due("a to d at once", x.rumour(0, 3), 1);
        CHECK.due("no such one", x.rumour(0, 4), -1);
        CHECK.due("no such one", x.rumour(-1, 0), -1);
        CHECK.due("no such one", x.rumour(4, 4), -1);
        CHECK.due("scandal", x.scandal(), 7);
        CHECK.due("pairs", x.pairs(), 1);
    }

    private static void gains() {
        PepperTables x = fish(0, 1);
        CHECK.due("cid would hear the lie", x.gain(2), 8);
        CHECK.due("bob hears love", x.gain(1), 5);
        CHECK.due("ann", x.gain(0), 0);
        CHECK.due("dot", x.gain(3), 0);
        CHECK.due("none such", x.gain(4), -1);
        CHECK.due("none such", x.gain(-1), -1);
        x.sit(2);
        CHECK.due("ann hears the joke", x.gain(0), 9);
        x.grind(0);
        CHECK.due("what was said already is not kept", x.gain(1), 0);
    }

    private static void feasts() {
        PepperTables x = fish(0, 1);
        CHECK.due("ann and bob", x.feast(0, 1), 2);
        lie(x, 0, 0);
        CHECK.due("bob and ann", x.feast(1, 0), 2);
        lie(x, 0, 0);
        // Each hears the hotter thing from the other one: both sitting is a rest, and so is neither.
        x = of("person a;person b;sack s;thing t by a to b hot 4 in s;thing u by b to a hot 4 in s;");
        CHECK.due("like ones", x.feast(0, 1), 4);
        lie(x, 0, 0);
        // c speaks to a, d to b, who are alone in hearing: each should sit.
        x = of("person a;person b;person c;sack s;thing t by c to a hot 4 in s;thing u by c to b hot 4 in s;", 2);
        CHECK.due("both", x.feast(0, 1), 1);
        lie(x, 1, 1);
        // a hears c only; b should stay away, for he would speak to c.
        x = of("person a;person b;person c;sack s;thing t by c to a hot 4 in s;thing u by b to c hot 4 in s;", 2);
        CHECK.due("a sits, b does not", x.feast(0, 1), 1);
        lie(x, 1, 0);
        CHECK.due("b does not, a sits", x.feast(1, 0), 1);
        lie(x, 0, 1);
        chase();
        x = fish();
        x.line();
        CHECK.due("both are one", x.feast(1, 1), -1);
        lie(x);
        x.line();
        CHECK.due("no such one", x.feast(0, 4), -1);
        lie(x);
        x.line();
        CHECK.due("no such one", x.feast(-1, 0), -1);
        lie(x);
    }

    private static void chase() {
        // a would sit where b does not, and b where a does: no rest.
        PepperTables x = of("person a;person b;person c;person d;sack r;sack s;"
                + "thing t by c to a hot 4 in r;thing u by a to b hot 5 in s;thing v by b to d hot 1 in s;", 2, 3);
        CHECK.due("a chase", x.feast(0, 1), 0);
        lie(x);
    }

    private static void shyests() {
        PepperTables x = fish(0, 1);
        CHECK.due("love", x.shyest(0), 4);
        CHECK.due("debt", x.shyest(1), 2);
        CHECK.due("cid does not sit", x.shyest(2), -1);
        CHECK.due("in no sack", x.shyest(4), -1);
        CHECK.due("none such", x.shyest(5), -1);
        CHECK.due("none such", x.shyest(-1), -1);
        x.grind(0);
        CHECK.due("said", x.shyest(0), -1);
        String start = "person a shy 5;person b;sack s;thing t by a to b hot 5 in s;said ";
        CHECK.due("always", of(start + "1;", 0, 1).shyest(0), 9);
        CHECK.due("never", of(start + "0;", 0, 1).shyest(0), -1);
        CHECK.due("by 0 alone", of(start + "not shy;", 0, 1).shyest(0), 0);
        CHECK.due("by 3 or 6, not by 0", of(start + "shy = 3 or shy = 6;", 0, 1).shyest(0), 6);
    }

    private static void linesOfPeople() {
        PepperTables x = fish();
        // ann to bob to cid; bob to cid to ann; ann to cid is kept, too.
        CHECK.due("line", x.line(), 3);
        lie(x, 0, 1, 2);
        x.sit(0);
        x.sit(1);
        x.grind(0);
        CHECK.due("without love", x.line(), 3);
        lie(x, 1, 0, 2);
        x = of("person a;person b;person c;");
        CHECK.due("alone", x.line(), 1);
        lie(x, 0);
        x = of("");
        CHECK.due("nobody", x.line(), 0);
        lie(x);
        x = of("person a;person b;person c;person d;person e;person f;thing i by f to e hot 1;thing j by e to d hot 1;"
                + "thing k by d to c hot 1;thing l by c to b hot 1;thing m by b to a hot 1;thing n by a to f hot 1;");
        CHECK.due("a ring", x.line(), 6);
        lie(x, 0, 5, 4, 3, 2, 1);
    }

    private static void invites() {
        PepperTables x = fish(0, 1);
        CHECK.due("cid", x.invite(0), 2);
        CHECK.due("three are said", x.invite(1), 3);
        CHECK.due("another what", x.invite(2), -1);
        CHECK.due("another what", x.invite(-1), -1);
        x = fish();
        CHECK.due("of like ones the first", x.invite(0), 0);
        CHECK.due("nothing is said", x.invite(1), 0);
        x = fish(0, 1, 2, 3);
        CHECK.due("all sit", x.invite(0), -1);
        CHECK.due("all sit", x.invite(1), -1);
        CHECK.due("nobody", of("").invite(1), -1);
    }

    private static void blends() {
        PepperTables x = fish(0, 1, 2);
        CHECK.due("blue into red", x.blend(0, 1), 3);
        CHECK.due("green into red", x.blend(0, 2), 1);
        CHECK.due("red into green", x.blend(2, 0), 1);
        CHECK.due("both are one", x.blend(0, 0), -1);
        CHECK.due("none such", x.blend(0, 3), -1);
        CHECK.due("none such", x.blend(-1, 0), -1);
        x.grind(0);
        CHECK.due("only kept ones", x.blend(2, 0), 0);
        x = of("person a;person b;sack r;sack s;thing t by a to b hot 4 in r;thing u by b to a hot 5 in s;said heat = 9 and ground = 1;", 0, 1);
        x.grind(1);
        CHECK.due("r was not ground", x.blend(0, 1), 0);
        CHECK.due("s was, and the heat is of both", x.blend(1, 0), 2);
    }

    private static void exchanges() {
        CHECK.due("none is better", fish(0, 1, 2).exchange(0), -1);
        // r is ground once: there the cool one would be said.
        PepperTables x = of("person a;person b;sack r;sack s;thing t by a to b hot 9 in r;thing u by b to a hot 1 in s;thing v by b to a hot 1 in s;"
                + "thing w by a to b hot 1;said hot > 5 or heat < 3;", 0, 1);
        CHECK.due("as it is", x.fewest(2), 7);
        CHECK.due("nothing more", x.exchange(0), -1);
        x = of("person a;person b;person c;sack r;sack s;thing t by a to c hot 2 in r;thing u by b to a hot 1 in s;thing v by b to a hot 1 in s;"
                + "thing w by a to b hot 1;said ground;", 0, 1);
        x.grind(0);
        CHECK.due("one of s comes into r", x.exchange(0), 0);
        CHECK.due("the first of them", x.exchange(1), 1);
        CHECK.due("how many", x.exchange(2), 1);
        CHECK.due("another what", x.exchange(3), -1);
        CHECK.due("another what", x.exchange(-1), -1);
        x.grind(1);
        CHECK.due("how many", x.exchange(2), -1);
    }

    private static void afters() {
        PepperTables x = fish(0, 1);
        CHECK.due("love", x.after(0), 1);
        CHECK.due("debt", x.after(1), -1);
        CHECK.due("cid does not sit", x.after(3), -1);
        CHECK.due("in none", x.after(4), -1);
        CHECK.due("none such", x.after(5), -1);
        x.grind(0);
        CHECK.due("said", x.after(0), -1);
        x = of("person a;person b;sack r;thing t by a to b hot 1 in r;thing u by a to b hot 2 in r;thing v by a to b hot 3 in r;"
                + "said hot = 1 and ground = 8 or hot = 2 and ground = 9 or hot = 3 and heat = 5;", 0, 1);
        CHECK.due("by nine", x.after(0), 9);
        CHECK.due("not by ten", x.after(1), -1);
        CHECK.due("the heat goes down by what is said", x.after(2), -1);
        x.grind(0);
        CHECK.due("by eight more", x.after(0), 8);
        CHECK.due("by nine more", x.after(1), 9);
        x = of("person a;person b;sack r;thing t by a to b hot 1 in r;thing u by a to b hot 2 in r;said hot = 2 or heat = 1;", 0, 1);
        CHECK.due("behind the other", x.after(0), 2);
    }

    private static void keepers() {
        PepperTables x = fish(0, 1);
        CHECK.due("keeps", x.keeps(1, 2), 8);
        CHECK.due("keeps", x.keeps(0, 2), 2);
        CHECK.due("keeps", x.keeps(2, 1), 0);
        CHECK.due("from himself", x.keeps(0, 0), 0);
        CHECK.due("none such", x.keeps(4, 0), -1);
        CHECK.due("none such", x.keeps(0, -1), -1);
        CHECK.due("dupe", x.dupe(), 0);
        CHECK.due("closest: of like ones the first", x.closest(), 0);
        CHECK.due("rank", x.rank(), 4);
        lie(x, 1, 2, 0, 3);
        CHECK.due("nothing more of ann to bob", x.grind(0), 1);
        CHECK.due("keeps", x.keeps(0, 1), 0);
        CHECK.due("closest", x.closest(), 1);
        x = of("person a;person b;person c;thing t by b to a hot 3;thing u by c to b hot 3;");
        CHECK.due("rank: of like ones the lesser", x.rank(), 3);
        lie(x, 1, 2, 0);
        CHECK.due("dupe: of like ones the first", x.dupe(), 0);
        x = of("person a;person b;");
        CHECK.due("dupe of nothing", x.dupe(), 0);
        CHECK.due("closest of nothing", x.closest(), 0);
        x.line();
        x = of("");
        CHECK.due("dupe without people", x.dupe(), -1);
        CHECK.due("closest without people", x.closest(), -1);
        CHECK.due("rank without people", x.rank(), 0);
        lie(x);
    }

    private static void sparksAndSpines() {
        PepperTables x = fish();
        CHECK.due("two for red", x.spark(0), 2);
        CHECK.due("green never", x.spark(2), -1);
        CHECK.due("spine of red", x.spine(0), 3);
        CHECK.due("spine of blue", x.spine(1), 4);
        CHECK.due("spine of green", x.spine(2), -1);
        CHECK.due("none such", x.spark(3), -1);
        CHECK.due("none such", x.spine(3), -1);
        CHECK.due("none such", x.spark(-1), -1);
        CHECK.due("none such", x.spine(-1), -1);
        x.sit(3);
        x.sit(1);
        CHECK.due("ann is missing", x.spark(0), 1);
        x.sit(0);
        CHECK.due("now", x.spark(0), 0);
        // Three sit, and only two may: nobody's sitting down is enough; but there is such a table.
        x = of("person a;person b;person c;person d;sack s;thing t by a to b hot 1 in s;said guests = 2;", 0, 1, 2);
        CHECK.due("too many", x.spark(0), -1);
        CHECK.due("spine", x.spine(0), 3);
        // Something is said at tables that share nobody.
        x = of("person a;person b;person c;person d;sack s;thing t by a to b hot 1 in s;thing u by c to d hot 1 in s;");
        CHECK.due("nobody is at each", x.spine(0), 0);
        x = of("person a;person b;person c;person d;sack s;thing t by a to b hot 1 in s;said guests = 4;", 0);
        CHECK.due("all", x.spine(0), 15);
        CHECK.due("three more", x.spark(0), 3);
    }

    private static void idleAndStorm() {
        PepperTables x = fish(0, 1);
        CHECK.due("idle", x.idle(), 6);
        CHECK.due("storm", x.storm(), 5);
        x.sit(2);
        CHECK.due("idle", x.idle(), 4);
        CHECK.due("storm", x.storm(), 22);
        x.grind(1);
        CHECK.due("idle", x.idle(), 6);
        CHECK.due("storm", x.storm(), 5);
        CHECK.due("scandal", x.scandal(), 17);
    }

    private static void singles() {
        PepperTables x = fish(0, 1);
        CHECK.due("hottest", x.hottest(), 1);
        CHECK.due("near", x.near(), 3);
        CHECK.due("next: in whatever sack", x.next(), 2);
        x.sit(2);
        CHECK.due("next", x.next(), 3);
        CHECK.due("near, those in none too", x.near(), 31);
        x.grind(1);
        CHECK.due("hottest", x.hottest(), 0);
        CHECK.due("near", x.near(), 19);
        x.grind(0);
        x.rise(1);
        CHECK.due("next in none", x.next(), 4);
        x.rise(0);
        CHECK.due("next", x.next(), -1);
        CHECK.due("of like ones the first", of("sack r;sack s;").hottest(), 0);
        CHECK.due("without sacks", of("").hottest(), -1);
        CHECK.due("without people", of("").next(), -1);
    }

    private static void laws() {
        PepperTables x = of("person a;person b;sack r;thing t by a to b hot 1 in r;thing u by a to b hot 2 in r;"
                + "said ground > 4 and hot = 1 or ground = 99;", 0, 1);
        CHECK.due("law", x.law(0, 0), 0);
        CHECK.due("law", x.law(0, 5), 1);
        CHECK.due("law", x.law(0, 99), 2);
        CHECK.due("law", x.law(0, 100), -1);
        CHECK.due("law", x.law(0, -1), -1);
        CHECK.due("law", x.law(1, 0), -1);
        CHECK.due("law", x.law(-1, 0), -1);
        CHECK.due("nothing is done", x.sack(0, 2), 0);
    }

    private static void oddsOf(String sneeze, int n, int upper, int lower) {
        PepperTables x = of(sneeze);
        CHECK.due(sneeze + " upper of " + n, x.odds(n, 0), upper);
        CHECK.due(sneeze + " lower of " + n, x.odds(n, 1), lower);
    }

    private static void oddsOfNoSneeze() {
        oddsOf("", 0, 1, 1);
        oddsOf("", 4, 1, 1);
        oddsOf("sneeze 30;", 0, 1, 1);
        oddsOf("sneeze 30;", 1, 7, 10);
        oddsOf("sneeze 30;", 2, 49, 100);
        oddsOf("sneeze 30;draw 77;", 3, 343, 1000);
        oddsOf("sneeze 1;", 4, 96059601, 100000000);
        oddsOf("sneeze 50;", 4, 1, 16);
        oddsOf("sneeze 100;", 0, 1, 1);
        oddsOf("sneeze 100;", 1, 0, 1);
        oddsOf("sneeze 100;", 4, 0, 1);
        PepperTables x = of("sneeze 30;");
        CHECK.due("odds(5, 0)", x.odds(5, 0), -1);
        CHECK.due("odds(-1, 0)", x.odds(-1, 0), -1);
        CHECK.due("odds(1, 2)", x.odds(1, 2), -1);
        CHECK.due("odds(1, -1)", x.odds(1, -1), -1);
        x.course();
        CHECK.due("whatever the seed is", x.odds(1, 0), 7);
    }

    private static void wrongNumbers() {
        PepperTables x = fish(0, 1, 2);
        for (int w : new int[] {Integer.MIN_VALUE, -1, 10, 31, 32, 1 << 20, Integer.MAX_VALUE}) {
            CHECK.due("table", x.table(0, w, 0), -1);
            CHECK.due("round", x.round(w, 0), -1);
            CHECK.due("send", x.send(w, 0), -1);
            CHECK.due("hide", x.hide(w, 0), -1);
            CHECK.due("gain", x.gain(w), -1);
            CHECK.due("feast", x.feast(w, 0), -1);
            CHECK.due("feast", x.feast(0, w), -1);
            CHECK.due("shyest", x.shyest(w), -1);
            CHECK.due("blend", x.blend(w, 0), -1);
            CHECK.due("blend", x.blend(0, w), -1);
            CHECK.due("after", x.after(w), -1);
            CHECK.due("rumour", x.rumour(w, 0), -1);
            CHECK.due("rumour", x.rumour(0, w), -1);
            CHECK.due("keeps", x.keeps(w, 0), -1);
            CHECK.due("keeps", x.keeps(0, w), -1);
            CHECK.due("spark", x.spark(w), -1);
            CHECK.due("spine", x.spine(w), -1);
            CHECK.due("law", x.law(w, 0), -1);
            CHECK.due("odds", x.odds(w, 0), -1);
            CHECK.due("lies", x.lies(w), -1);
        }
    }

    /** Questions leave all as it is. */
    private static void nothingIsDone() {
        PepperTables x = fish(0, 1, 2);
        x.grind(0);
        x.course();
        x.undo();
        int[] before = new int[13];
        for (int i = 0; i < before.length; i++) {
            before[i] = x.about(i);
        }
        x.table(4, 1, 0);
        x.round(4, 0);
        x.mute();
        x.fewest(0);
        x.send(1, 0);
        x.hide(2, 0);
        x.gain(3);
        x.feast(0, 3);
        x.shyest(2);
        x.line();
        x.invite(0);
        x.blend(0, 1);
        x.exchange(0);
        x.after(3);
        x.spark(1);
        x.spine(1);
        x.storm();
        x.law(0, 7);
        x.next();
        x.rows(0);
        x.ask(0, 0);
        for (int i = 0; i < before.length; i++) {
            CHECK.due("about(" + i + ")", x.about(i), before[i]);
        }
        CHECK.due("ground", x.sack(0, 2), 1);
        CHECK.due("ground", x.sack(1, 2), 0);
        CHECK.due("where", x.thing(2, 3), 1);
        CHECK.due("where", x.thing(4, 3), -1);
        CHECK.due("redo", x.redo(), true);
    }
}
