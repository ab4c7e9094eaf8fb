/** What the tests share: answers that are due, and texts fed to the tape. */
final class Due {
    static final int BAD = -1000000001, NO = -1000000002, FULL = -1000000003, NONE = -1000000005;
    static final int NOTHING = -1000000011, KIND = -1000000012, INDEX = -1000000013, SIZE = -1000000014;

    private final String name;
    private int calls = 0;
    private int wrong = 0;

    Due(String name) {
        this.name = name;
    }

    void is(String call, long want, long got) {
        calls++;
        if (got != want) {
            wrong++;
            System.out.println(name + ": " + call + " answered " + got + ", due is " + want);
        }
    }

    void holds(String what, boolean so) {
        is(what, 1, so ? 1 : 0);
    }

    /** Ends the test: exit code 1 if an answer was wrong. */
    void end() {
        System.out.println(name + ": " + calls + " answers, " + wrong + " wrong");
        if (wrong != 0) {
            System.exit(1);
        }
    }

    /** Puts a text on an empty tape, signs above 127 by their number. */
    static void put(TwoBells x, String text) {
        int size = text.length();
        StringBuilder padded = new StringBuilder(text);
        while (padded.length() % 12 != 0) {
            padded.append(' ');
        }
        for (int i = 0; i < padded.length(); i += 12) {
            x.feed(four(padded, i), four(padded, i + 4), four(padded, i + 8));
        }
        x.trim(size);
    }

    static int tell(TwoBells x, String text) {
        put(x, text);
        return x.text();
    }

    private static int four(CharSequence s, int at) {
        return s.charAt(at) << 24 | s.charAt(at + 1) << 16 | s.charAt(at + 2) << 8 | s.charAt(at + 3);
    }

    /** A town of so many houses, all of whom are awake and care. */
    static TwoBells town(int houses) {
        TwoBells x = new TwoBells();
        for (int i = 0; i < houses; i++) {
            x.house(100, 100);
        }
        return x;
    }

    static int draw(int z) {
        return z * 1103515245 + 12345;
    }

    static int drawn(int z, int draws) {
        for (int i = 0; i < draws; i++) {
            z = draw(z);
        }
        return z;
    }

    /** A seed from which so many draws end in that rest by a number. */
    static int seedFor(int rest, int by, int draws) {
        int z = 0;
        while ((drawn(z, draws) >>> 8) % by != rest) {
            z++;
        }
        return z;
    }
}
