/** What the tests share: rows of "due", and texts put on the tape. */
final class Check {
    private int rows = 0;
    private int wrong = 0;

    void due(String call, long got, long want) {
        rows++;
        if (got != want) {
            wrong++;
            System.out.println(call + " answered " + got + ", due is " + want);
        }
    }

    void due(String call, boolean got, boolean want) {
        due(call, got ? 1 : 0, want ? 1 : 0);
    }

    /** Call this last in main: ends with 1 if a row was not as due. */
    void finish() {
        System.out.println(rows + " rows, " + wrong + " not as due");
        if (wrong != 0) {
            System.exit(1);
        }
    }

    /** Puts a text, of signs 0 to 255, behind what is on the tape; how many bytes it had ahead. */
    static int feedText(DebtorsHouse x, int ahead, String text) {
        for (int i = 0; i < text.length(); i += 20) {
            x.feed(four(text, i), four(text, i + 4), four(text, i + 8), four(text, i + 12), four(text, i + 16));
        }
        return x.end(ahead + text.length());
    }

    static int act(DebtorsHouse x, String text, int from) {
        x.end(0);
        feedText(x, 0, text);
        return x.act(from);
    }

    static int four(String text, int at) {
        int bytes = 0;
        for (int i = at; i < at + 4; i++) {
            bytes = bytes << 8 | (i < text.length() ? text.charAt(i) : 32);
        }
        return bytes;
    }

    static void days(DebtorsHouse x, int n) {
        for (int i = 0; i < n; i++) {
            x.day();
        }
    }

    static void hours(DebtorsHouse x, int n) {
        for (int i = 0; i < n; i++) {
            x.hour();
        }
    }

    static DebtorsHouse persons(int... coins) {
        DebtorsHouse x = new DebtorsHouse();
        for (int c : coins) {
            x.person(c, 0);
        }
        return x;
    }
}
