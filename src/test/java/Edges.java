import java.io.IOException;
import java.nio.file.Files;
import java.nio.file.Path;
import java.util.BitSet;
import java.util.Map;
import java.util.TreeMap;
import java.util.function.IntSupplier;
import java.util.regex.Matcher;
import java.util.regex.Pattern;

/**
 * The document's sentences that name an edge, each with the answers that are due there. A sentence must stand in the
 * document word for word and must have an answer; and no words of an edge may be left over that no sentence holds.
 */
final class Edges {
    private static final Path DOCUMENT = Path.of("../shared/DOC.md");
    private static final int TERMS = 0;
    private static final int PROMISES = 56;
    private static final Pattern HEADING = Pattern.compile("(?m)^## (.*)$");
    private static final Pattern EDGE_OF_TERMS = Pattern.compile(
            "\\d|at most|none|nothing|at first|of like ones|at least|not told|ahead|too many|wrapping|no one twice");
    private static final Pattern EDGE_OF_PROMISE = Pattern.compile(
            "NONE|\\d|at most|false|\\bif\\b|without|nothing|of like ones|empty|above|more than|at least|each once");

    private final Check check = new Check("EdgesTest");
    private final Map<Integer, String> sections = new TreeMap<>();
    private final Map<Integer, BitSet> held = new TreeMap<>();
    private String sentence = "";
    private int answers = 1;

    Edges() throws IOException {
        String document = Files.readString(DOCUMENT).replace("```text", "").replace("```", "");
        Matcher heading = HEADING.matcher(document);
        while (heading.find()) {
            int end = document.indexOf("\n## ", heading.end());
            String body = document.substring(heading.end(), end < 0 ? document.length() : end);
            keep(heading.group(1), plain(body));
        }
        check.due("sections of the document", sections.size(), PROMISES + 1);
    }

    private static String plain(String text) {
        return text.replaceAll("==== \\d\\.", "").replaceAll("`[^`]*`:", "").replaceAll("\\s+", " ").trim();
    }

    private void keep(String title, String body) {
        Matcher promise = Pattern.compile("Promise (\\d+): .*").matcher(title);
        if (title.equals("Terms")) {
            sections.put(TERMS, body.replaceFirst("The constants.*$", ""));
        } else if (promise.matches()) {
            sections.put(Integer.parseInt(promise.group(1)), body);
        }
    }

    /** The next answers are due by these words of the terms. */
    void terms(String words) {
        hold(TERMS, words);
    }

    /** The next answers are due by these words of a promise. */
    void promise(int number, String words) {
        hold(number, words);
    }

    private void hold(int section, String words) {
        check.due("'" + sentence + "' has an answer", answers > 0, true);
        sentence = (section == TERMS ? "terms" : "promise " + section) + ": " + words;
        answers = 0;
        int from = sections.getOrDefault(section, "").indexOf(words);
        check.due("the document says '" + sentence + "'", from >= 0, true);
        if (from >= 0) {
            held.computeIfAbsent(section, s -> new BitSet()).set(from, from + words.length());
        }
    }

    void due(String call, long got, long want) {
        answers++;
        check.due(sentence + ": " + call, got, want);
    }

    void due(String call, boolean got, boolean want) {
        due(call, got ? 1 : 0, want ? 1 : 0);
    }

    /** A call, refused or only a question, by which nothing that can be seen is changed. */
    void doesNothing(String call, PepperTables x, int want, IntSupplier asked) {
        String before = seen(x);
        due(call, asked.getAsInt(), want);
        due(call + " does nothing", seen(x).equals(before), true);
    }

    private static String seen(PepperTables x) {
        StringBuilder all = new StringBuilder();
        for (int what = 0; what <= 15; what++) {
            all.append(x.about(what)).append(' ');
        }
        for (int i = 0; i < 10; i++) {
            all.append(x.lies(i)).append(' ').append(x.thing(i, 3)).append(' ').append(x.sack(i, 2)).append(' ');
        }
        return all.append(x.fault(0)).append(' ').append(x.fault(1)).append(' ').append(x.rows(x.about(10))).toString();
    }

    /** What the store of a text answers; a whole text has fault 0 and place -1. */
    void fault(String text, int fault, int place) {
        PepperTables x = new PepperTables();
        due("feed", Check.feed(x, text), text.length());
        String shown = text.length() > 90 ? text.substring(0, 40) + " .. " + text.substring(text.length() - 40) : text;
        due("store of '" + shown + "' is refused", x.store() == -1, fault != 0);
        due("fault of '" + shown + "'", x.fault(0), fault);
        due("place in '" + shown + "'", x.fault(1), place);
    }

    void lie(PepperTables x, int... numbers) {
        due("how many numbers lie there", x.about(13), numbers.length);
        for (int i = 0; i < numbers.length; i++) {
            due("lies(" + i + ")", x.lies(i), numbers[i]);
        }
        due("lies beyond", x.lies(numbers.length), -1);
    }

    void close() {
        check.due("'" + sentence + "' has an answer", answers > 0, true);
        for (Map.Entry<Integer, String> section : sections.entrySet()) {
            Pattern edge = section.getKey() == TERMS ? EDGE_OF_TERMS : EDGE_OF_PROMISE;
            Matcher words = edge.matcher(section.getValue());
            BitSet bits = held.getOrDefault(section.getKey(), new BitSet());
            while (words.find()) {
                String around = section.getValue().substring(Math.max(0, words.start() - 30),
                        Math.min(section.getValue().length(), words.end() + 30));
                check.due("an edge of section " + section.getKey() + " is held: '" + around + "'", bits.get(words.start()), true);
            }
        }
        check.close();
    }

    static PepperTables of(String text, int... sitting) {
        PepperTables x = Check.of(text);
        for (int person : sitting) {
            x.sit(person);
        }
        return x;
    }

    /** So many lines, with the names a, b, c, .. in place of the sign #. */
    static String lines(String line, int count) {
        StringBuilder text = new StringBuilder();
        for (int i = 0; i < count; i++) {
            text.append(line.replace('#', (char) ('a' + i)));
        }
        return text.toString();
    }
}
