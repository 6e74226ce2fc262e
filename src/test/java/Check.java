/** What the tests share: rows of "due" under sentences of the document, and texts put on the tape. */
final class Check {
    static final int LOW = Integer.MIN_VALUE;
    static final int HIGH = Integer.MAX_VALUE;

    private int rows = 0;
    private int wrong = 0;
    private String sentence = "";

    /** The rows from here on are those of a sentence, which must stand in the document word for word. */
    void says(String where, String words) {
        sentence = where + ", '" + words + "': ";
        due("this stands in the document", Doc.quote(where, words), true);
    }

    void due(String call, long got, long want) {
        rows++;
        if (got != want) {
            wrong++;
            System.out.println(sentence + call + " answered " + got + ", due is " + want);
        }
    }

    void due(String call, boolean got, boolean want) {
        due(call, got ? 1 : 0, want ? 1 : 0);
    }

    /** Compares two texts by lines, and shows the first line that differs. */
    void same(String call, String got, String want) {
        String[] lines = got.split("\n");
        String[] due = want.split("\n");
        int differ = lines.length == due.length ? -1 : Math.min(lines.length, due.length);
        for (int i = Math.min(lines.length, due.length) - 1; i >= 0; i--) {
            differ = lines[i].equals(due[i]) ? differ : i;
        }
        boolean shown = differ >= 0 && differ < Math.min(lines.length, due.length);
        due(call + (shown ? ", then " + lines[differ] + " for " + due[differ] : ""), differ < 0, true);
    }

    /** Call this last in main: ends with 1 if a row was not as due. */
    void finish() {
        System.out.println(rows + " rows, " + wrong + " not as due");
        if (wrong != 0) {
            System.exit(1);
        }
    }

    /** Puts a text, of signs 0 to 255, behind what is on the tape; how many bytes it has then. */
    static int feedText(DebtorsHouse x, int ahead, String text) {
        for (int i = 0; i < text.length(); i += 20) {
            x.feed(four(text, i), four(text, i + 4), four(text, i + 8), four(text, i + 12), four(text, i + 16));
        }
        return x.end(ahead + text.length());
    }

    static int act(DebtorsHouse x, String text, int from) {
        x.end(0);
        feedText(x, 0, text);
        return x.act(from);
    }

    static int four(String text, int at) {
        int bytes = 0;
        for (int i = at; i < at + 4; i++) {
            bytes = bytes << 8 | (i < text.length() ? text.charAt(i) : 32);
        }
        return bytes;
    }

    static void days(DebtorsHouse x, int n) {
        for (int i = 0; i < n; i++) {
            x.day();
        }
    }

    static void hours(DebtorsHouse x, int n) {
        for (int i = 0; i < n; i++) {
            x.hour();
        }
    }

    static DebtorsHouse persons(int... coins) {
        DebtorsHouse x = new DebtorsHouse();
        for (int c : coins) {
            x.person(c, 0);
        }
        return x;
    }
}
