import java.util.NoSuchElementException;
import java.util.function.Consumer;
import java.util.function.ToIntFunction;

/**
 * Boundary cases: each sentence that names one is a test of its own, on an object of its own.
 * To look at all of a state takes many calls; an edge may ask more than 512, for the class answers alike after them.
 */
final class Edges {
    static final int NONE = -1;
    static final int HIDDEN = -1000000;
    static final int LEAST = Integer.MIN_VALUE;
    static final int MOST = Integer.MAX_VALUE;
    /** What key answers where it throws. */
    static final int THROWN = -7777777;
    static final int NO_STATUS = -1;
    /** What no number of a map can be, by itself. */
    static final int[] NO_NUMBERS = {LEAST, -2, -1, 999, 1000, MOST};
    static final int[] NO_BUILDERS = {LEAST, -1, 4, 5, MOST};
    static final int[] NO_PROGRAMS = {LEAST, -1, 4, MOST};
    static final int[] NO_KEYS = {LEAST, -1, 1000, MOST};
    static final int[] NO_VALUES = {LEAST, -1000, 1000, MOST};
    static final String EIGHT = "1:1,2:2,3:3,4:4,5:5,6:6,7:7,8:8";

    private final Due due;
    private String sentence = "";
    private int edges;

    Edges(String where) {
        due = new Due(where);
    }

    /** A test of one sentence; it asks for at least one answer, and nothing throws in it. */
    void edge(String told, Consumer<WideMap> test) {
        sentence = told;
        edges++;
        int before = due.seen();
        try {
            test.accept(new WideMap());
        } catch (RuntimeException e) {
            due.is(told + ": throws " + e.getClass().getName(), 1, 0);
        }
        due.is(told + ": asks", due.seen() > before, true);
    }

    void close() {
        System.out.println(edges + " sentences");
        due.close();
    }

    void is(String call, long got, long want) {
        due.is(sentence + ": " + call, got, want);
    }

    void is(String call, boolean got, boolean want) {
        due.is(sentence + ": " + call, got, want);
    }

    void is(String call, String got, String want) {
        due.is(sentence + ": " + call, got, want);
    }

    void looks(WideMap x, int map, String want) {
        due.is(sentence + ": show(" + map + ")", Due.shown(x, map), want);
    }

    /** What a map looks like, keys alone. */
    void keys(WideMap x, int map, String want) {
        due.is(sentence + ": keys of " + map, Due.shown(x, map).replaceAll(":-?[0-9]+", ""), want);
    }

    /** The call answers NONE, its STATUS is one more, and nothing else is another. */
    void refused(String call, WideMap x, int status, ToIntFunction<WideMap> asked) {
        answers(call, x, NONE, status, asked);
    }

    /** The call answers so, and nothing at all is another. */
    void quiet(String call, WideMap x, int want, ToIntFunction<WideMap> asked) {
        answers(call, x, want, NO_STATUS, asked);
    }

    private void answers(String call, WideMap x, int want, int status, ToIntFunction<WideMap> asked) {
        String before = state(x);
        int[] refusals = statuses(x);
        is(call, asked.applyAsInt(x), want);
        for (int i = 0; i < refusals.length; i++) {
            is(call + ", then STATUS " + i, x.status(i) - refusals[i], i == status ? 1 : 0);
        }
        is(call + ", then all else", state(x), before);
    }

    private static int[] statuses(WideMap x) {
        int[] all = new int[5];
        for (int i = 0; i < all.length; i++) {
            all[i] = x.status(i);
        }
        return all;
    }

    /** All that an object shows of itself without a change, but for STATUS. */
    private static String state(WideMap x) {
        StringBuilder text = new StringBuilder();
        for (int what = 0; what < 8; what++) {
            text.append(x.count(what)).append(' ');
        }
        for (int map = 0; map < Math.min(20, x.count(2)); map++) {
            text.append(x.digest(map)).append(' ').append(x.about(map, 5)).append(' ').append(x.about(map, 6)).append(';');
        }
        for (int builder = 0; builder < 4; builder++) {
            for (int what = 0; what < 4; what++) {
                text.append(x.builder(builder, what)).append(' ');
            }
            for (int key = 0; key < 62 && x.builder(builder, 0) != HIDDEN; key++) {
                text.append(x.peek(builder, key)).append(' ');
            }
        }
        text.append(x.fault(0)).append(' ').append(x.fault(1)).append(' ');
        for (int i = 0; i < 4; i++) {
            text.append(x.step(i, 0, 0)).append(' ').append(x.shown(i)).append(' ');
        }
        return text.toString();
    }

    static int keyOf(WideMap x, int map, int i) {
        try {
            return x.key(map, i);
        } catch (NoSuchElementException e) {
            return THROWN;
        }
    }

    /** Width 3: map 0 is EIGHT, map 1 was dropped, map 2 is 2:-2,3:3,9:9; number 3 is the next one. */
    static void three(WideMap x) {
        x.wide(3);
        Due.map(x, EIGHT);
        Due.map(x, "5:5");
        x.drop(1);
        Due.map(x, "2:-2,3:3,9:9");
    }

    /** Numbers under which no map is held after three(x). */
    static int[] noMaps() {
        int[] all = new int[NO_NUMBERS.length + 2];
        System.arraycopy(NO_NUMBERS, 0, all, 0, NO_NUMBERS.length);
        all[NO_NUMBERS.length] = 1;
        all[NO_NUMBERS.length + 1] = 3;
        return all;
    }

    /** Sixteen maps are held, number 0 among them. */
    static void crowd(WideMap x) {
        for (int i = x.count(1); i < 16; i++) {
            x.lacking(0, 999);
        }
    }

    /** Map 0 is held alone, and only so many numbers are left. Program 0 takes sixteen snaps. */
    static void spend(WideMap x, int left) {
        if (x.count(5) == 0) {
            Due.program(x, "snap;".repeat(15) + "snap");
        }
        for (int map = x.count(2) - 1; map > 0; map--) {
            if (x.about(map, 0) != HIDDEN) {
                x.drop(map);
            }
        }
        x.image();
        for (int i = 0; i < 100 && x.count(2) < 999 - left; i++) {
            x.back();
            x.build(0, 0);
            if (999 - left - x.count(2) >= 15) {
                x.run(0, 0);
            } else {
                x.snap(0);
            }
        }
        x.back();
    }
}
