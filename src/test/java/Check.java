/** Counts the calls whose answer is not the one that is due, and puts texts on the tape. */
final class Check {
    private final String title;
    private int calls;
    private int wrong;

    Check(String title) {
        this.title = title;
    }

    void due(String call, long got, long want) {
        calls++;
        if (got != want) {
            wrong++;
            if (wrong <= 50) {
                System.out.println(title + ": " + call + " answered " + got + ", due is " + want);
            }
        }
    }

    void due(String call, boolean got, boolean want) {
        due(call, got ? 1 : 0, want ? 1 : 0);
    }

    boolean hasWrong() {
        return wrong > 0;
    }

    /** Ends the program with 1 if an answer was wrong. */
    void close() {
        System.out.println(title + ": " + calls + " answers, " + wrong + " wrong");
        if (wrong > 0) {
            System.exit(1);
        }
    }

    /** Puts a text, whose signs are its bytes, behind what is on the tape; the tape's length then. */
    static int feed(PepperTables x, String text) {
        int before = x.about(11);
        StringBuilder padded = new StringBuilder(text);
        while (padded.length() % 20 != 0) {
            padded.append(' ');
        }
        for (int i = 0; i < padded.length(); i += 20) {
            x.feed(number(padded, i), number(padded, i + 4), number(padded, i + 8),
                    number(padded, i + 12), number(padded, i + 16));
        }
        return x.end(before + text.length());
    }

    private static int number(CharSequence text, int from) {
        return text.charAt(from) << 24 | text.charAt(from + 1) << 16 | text.charAt(from + 2) << 8 | text.charAt(from + 3);
    }

    /** A new object with this store; fails loudly if the text has a fault. */
    static PepperTables of(String text) {
        PepperTables x = new PepperTables();
        feed(x, text);
        if (x.store() < 0) {
            throw new IllegalStateException("fault " + x.fault(0) + " at " + x.fault(1) + " of: " + text);
        }
        return x;
    }
}
