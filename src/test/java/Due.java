import java.nio.charset.StandardCharsets;

/** What the tests of the project have in common: answers that are due, texts told, maps shown. */
final class Due {
    private final String where;
    private int seen;
    private int wrong;

    Due(String where) {
        this.where = where;
    }

    /** How many answers were asked for. */
    int seen() {
        return seen;
    }

    void is(String call, long got, long want) {
        seen++;
        if (got != want) {
            wrong++;
            System.out.println(where + ": " + call + " answered " + got + ", due is " + want);
        }
    }

    void is(String call, boolean got, boolean want) {
        is(call, got ? 1 : 0, want ? 1 : 0);
    }

    void is(String call, String got, String want) {
        seen++;
        if (!got.equals(want)) {
            wrong++;
            System.out.println(where + ": " + call + " answered " + got + ", due is " + want);
        }
    }

    /** Ends the test: exit code 1 if an answer was not due. */
    void close() {
        System.out.println(where + ": " + seen + " answers, " + wrong + " not as due");
        if (wrong != 0 || seen == 0) {
            System.exit(1);
        }
    }

    static int[] packed(String text) {
        byte[] bytes = text.getBytes(StandardCharsets.ISO_8859_1);
        int[] numbers = new int[(bytes.length + 19) / 20 * 5];
        for (int i = 0; i < bytes.length; i++) {
            numbers[i / 4] |= (bytes[i] & 255) << (24 - 8 * (i % 4));
        }
        return numbers;
    }

    /** The tape has this text alone. */
    static void tape(WideMap x, String text) {
        x.end(0);
        int[] numbers = packed(text);
        for (int i = 0; i + 4 < numbers.length; i += 5) {
            x.feed(numbers[i], numbers[i + 1], numbers[i + 2], numbers[i + 3], numbers[i + 4]);
        }
    }

    static int map(WideMap x, String text) {
        tape(x, text);
        return x.text(0);
    }

    static int program(WideMap x, String text) {
        tape(x, text);
        return x.text(1);
    }

    static String shown(WideMap x, int map) {
        int signs = x.show(map);
        StringBuilder text = new StringBuilder();
        for (int i = 0; i < signs; i++) {
            text.append((char) x.shown(i));
        }
        return text.toString();
    }

    /** The entries from one key to another, each with the value key times factor, as a text. */
    static String rising(int from, int to, int factor) {
        StringBuilder text = new StringBuilder();
        for (int key = from; key <= to; key++) {
            text.append(key > from ? "," : "").append(key).append(':').append(key * factor);
        }
        return text.toString();
    }

    /** A builder has the keys from one to another put with their values. */
    static void layAll(WideMap x, int builder, int from, int to, int value) {
        for (int key = from; key <= to; key++) {
            x.lay(builder, key, value);
        }
    }

    /** A map of 60 keys: 0 .. 59, each with the same value. */
    static int full(WideMap x, int value) {
        int empty = map(x, "");
        x.build(3, empty);
        layAll(x, 3, 0, 59, value);
        x.drop(empty);
        return x.freeze(3);
    }
}
