import java.util.NoSuchElementException;

/** Long runs of calls, drawn by fixed seeds, on the class and on the model: every answer must be the same. */
public final class RandomTest {
    private static final int RUNS = 800;
    private static final int CALLS = 512;
    private static final int[] ODD = {-1, -2, 0, 1, 4, 16, 60, 240, 998, 999, 1000, -999, -1000, -1000000,
        Integer.MAX_VALUE, Integer.MIN_VALUE, Integer.MAX_VALUE - 1};

    private final Due due;
    private final int run;
    private final WideMap x = new WideMap();
    private final Model m = new Model();
    private long state;
    private int span;

    private RandomTest(Due due, int run) {
        this.due = due;
        this.run = run;
        state = run * 7919L + 17;
        span = new int[] {12, 30, 70, 130, 1000}[run % 5];
    }

    public static void main(String[] args) {
        Due due = new Due("RandomTest");
        for (int run = 0; run < RUNS; run++) {
            new RandomTest(due, run).all();
        }
        due.close();
    }

    private int any(int n) {
        state = state * 6364136223846793005L + 1442695040888963407L;
        return (int) ((state >>> 33) % n);
    }

    private boolean rarely() {
        return any(40) == 0;
    }

    private int odd() {
        return ODD[any(ODD.length)];
    }

    private int map() {
        if (rarely() || m.held.isEmpty()) {
            return rarely() ? odd() : any(m.from.size() + 2) - 1;
        }
        return (Integer) m.held.keySet().toArray()[any(m.held.size())];
    }

    /** Now and then a key that a map has. */
    private int key() {
        int map = map();
        if (any(3) == 0 && m.about(map, 0) > 0) {
            return m.key(map, any(m.about(map, 0)));
        }
        return rarely() ? odd() : any(span);
    }

    /** Makes room, mostly by dropping the smaller one of two maps. */
    private void dropped() {
        int one = map();
        int two = map();
        int smaller = m.about(one, 0) < m.about(two, 0) ? one : two;
        same("drop", x.drop(smaller), m.drop(smaller));
    }

    private int value() {
        return rarely() ? odd() : any(4) == 0 ? any(1999) - 999 : any(9) - 4;
    }

    private int small(int n) {
        return rarely() ? odd() : any(n);
    }

    private void all() {
        int width = 3 + run / 5 % 4;
        same("wide", x.wide(width), m.wide(width));
        for (int i = 0; i < CALLS; i++) {
            int kind = any(100);
            if (kind < 7) {
                told();
            } else if (kind < 42) {
                changed();
            } else if (kind < 62) {
                made();
            } else if (kind < 82) {
                asked();
            } else {
                compared();
            }
        }
    }

    private void same(String call, long got, long want) {
        due.is("run " + run + ", " + call, got, want);
    }

    private void told() {
        int n = any(6) > 0 ? 0 : any(m.tape.length() + 2) - any(2);
        same("end " + n, x.end(n), m.end(n));
        int kind = any(2);
        int[] numbers = Due.packed(kind == 0 ? mapText() : programText());
        for (int j = 0; j + 4 < numbers.length; j += 5) {
            same("feed", x.feed(numbers[j], numbers[j + 1], numbers[j + 2], numbers[j + 3], numbers[j + 4]),
                    m.feed(numbers[j], numbers[j + 1], numbers[j + 2], numbers[j + 3], numbers[j + 4]));
        }
        int sort = rarely() ? odd() : any(10) == 0 ? 1 - kind : kind;
        same("fault " + sort, x.fault(sort), m.fault(sort));
        same("text " + sort, x.text(sort), m.text(sort));
    }

    private void same(String call, boolean got, boolean want) {
        same(call, got ? 1 : 0, want ? 1 : 0);
    }

    private String blanks() {
        return any(6) == 0 ? "  ".substring(any(2)) : "";
    }

    private String mapText() {
        StringBuilder text = new StringBuilder();
        int entries = any(3) == 0 ? any(12) : any(60);
        for (int i = 0; i < entries; i++) {
            text.append(i == 0 ? "" : ",").append(blanks()).append(any(span)).append(blanks()).append(':')
                    .append(blanks()).append(any(5) == 0 ? any(1999) - 999 : any(10)).append(blanks());
        }
        return spoiled(text);
    }

    private String programText() {
        String[] words = {"put", "del", "add", "cut", "inc", "snap"};
        StringBuilder text = new StringBuilder();
        int steps = any(8) == 0 ? 18 : 1 + any(12);
        for (int i = 0; i < steps; i++) {
            int what = any(3) > 0 ? any(2) * 2 : any(6);
            int from = any(span);
            text.append(i == 0 ? "" : ";").append(blanks()).append(words[what]);
            if (what < 5) {
                text.append(any(4) == 0 ? "" : " ").append(from);
            }
            if (what == 3 || what == 4) {
                text.append(blanks()).append(' ').append(any(5) == 0 ? any(span) : Math.min(999, from + any(4)));
            }
            if (what == 0 || what == 2 || what == 4) {
                int value = any(19) - 9;
                text.append(value < 0 && any(2) == 0 ? "" : " ").append(value);
            }
            text.append(blanks());
        }
        return spoiled(text);
    }

    /** Now and then a sign is other, gone, or one too many. */
    private String spoiled(StringBuilder text) {
        String signs = " :,;-0123456789putdelacins\n\u00e9P";
        for (int i = 0; i < 2 && any(4) == 0 && text.length() > 0; i++) {
            int at = any(text.length());
            char sign = signs.charAt(any(signs.length()));
            if (any(3) == 0) {
                text.deleteCharAt(at);
            } else if (any(2) == 0) {
                text.insert(at, sign);
            } else {
                text.setCharAt(at, sign);
            }
        }
        return text.substring(0, Math.min(240, text.length()));
    }

    private void changed() {
        int b = small(4);
        int a = key();
        int c = rarely() ? key() : Math.min(999, a + any(4));
        int v = value();
        int n = 1 + small(30);
        long seed = any(5) == 0 ? Long.MIN_VALUE + any(9) : any(1000000) - 500000;
        int map = map();
        int program = small(4);
        switch (any(15)) {
            case 0: case 1: same("build", x.build(b, map), m.build(b, map)); break;
            case 2: case 3: case 4: same("lay", x.lay(b, a, v), m.lay(b, a, v)); break;
            case 5: case 6: same("take", x.take(b, a), m.take(b, a)); break;
            case 7: same("add", x.add(b, a, v), m.add(b, a, v)); break;
            case 8: same("cut", x.cut(b, a, c), m.cut(b, a, c)); break;
            case 9: same("inc", x.inc(b, a, c, v), m.inc(b, a, c, v)); break;
            case 10: same("snap", x.snap(b), m.snap(b)); break;
            case 11: same("freeze", any(3) == 0 ? x.freeze(b) - m.freeze(b) : 0, 0); break;
            case 12: case 13: n = any(3) == 0 ? n : 30; same("draws", x.draws(b, n, seed), m.draws(b, n, seed)); break;
            default: same("run", x.run(program, b), m.run(program, b)); break;
        }
        same("made", x.count(3), m.count(3));
    }

    private void made() {
        while (m.held.size() > 13 && any(8) > 0) {
            dropped();
        }
        int one = map();
        int two = map();
        int three = map();
        int a = key();
        int c = any(2) == 0 ? key() : Math.min(999, a + span / 2 + any(span));
        int v = value();
        int rule = small(4);
        switch (any(13)) {
            case 0: case 1: same("having", x.having(one, a, v), m.having(one, a, v)); break;
            case 2: case 3: same("lacking", x.lacking(one, a), m.lacking(one, a)); break;
            case 4: case 5: same("merge", x.merge(one, two, rule), m.merge(one, two, rule)); break;
            case 6: case 7: same("three", x.three(one, two, three, rule), m.three(one, two, three, rule)); break;
            case 8: a = any(3) == 0 ? a : a / 4; same("slice", x.slice(one, a, c), m.slice(one, a, c)); break;
            case 9: same("image", x.image(), m.image()); break;
            case 10:
                if (any(4) == 0) {
                    same("back", x.back(), m.back());
                }
                break;
            case 11:
                if (rarely()) {
                    same("wide", x.wide(two), m.wide(two));
                    int width = 3 + any(4);
                    same("wide", x.wide(width), m.wide(width));
                }
                break;
            default: dropped(); break;
        }
        int sort = any(5);
        same("status", x.status(sort), m.status(sort));
    }

    private void asked() {
        int map = map();
        int key = key();
        int what = small(8);
        int part = small(4);
        int i = any(3) == 0 ? small(60) : small(8);
        switch (any(14)) {
            case 0: same("find", x.find(map, key), m.find(map, key)); break;
            case 1: same("key", keyOf(map, i, true), keyOf(map, i, false)); break;
            case 2: case 3: same("about", x.about(map, what), m.about(map, what)); break;
            case 4: same("below", x.below(map, key), m.below(map, key)); break;
            case 5: same("near", x.near(map, key, part), m.near(map, key, part)); break;
            case 6: same("total", x.total(map, key, i), m.total(map, key, i)); break;
            case 7: same("node", x.node(map, i, what), m.node(map, i, what)); break;
            case 8: same("peek", x.peek(part, key), m.peek(part, key)); break;
            case 9: case 10: same("builder", x.builder(part, what), m.builder(part, what)); break;
            case 11: same("step", x.step(part, i, what), m.step(part, i, what)); break;
            case 12: same("status", x.status(what), m.status(what)); break;
            default: same("count " + what, x.count(what), m.count(what)); break;
        }
    }

    private long keyOf(int map, int i, boolean real) {
        try {
            return real ? x.key(map, i) : m.key(map, i);
        } catch (NoSuchElementException e) {
            return Long.MIN_VALUE;
        }
    }

    private void compared() {
        int map = map();
        int other = map();
        int third = map();
        int what = small(3);
        int i = small(6) - 1;
        switch (any(12)) {
            case 0: same("shared", x.shared(map, other), m.shared(map, other)); break;
            case 1: same("looked", x.looked(map, other), m.looked(map, other)); break;
            case 2: case 3: same("difference", x.difference(map, other, i, what), m.difference(map, other, i, what)); break;
            case 4: same("alike", x.alike(map, other, what), m.alike(map, other, what)); break;
            case 5: same("fork", x.fork(map, other), m.fork(map, other)); break;
            case 6: same("comesFrom", x.comesFrom(map, other), m.comesFrom(map, other)); break;
            case 7: same("conflicts", x.conflicts(map, other, third), m.conflicts(map, other, third)); break;
            case 8: case 9: same("show", x.show(map), m.show(map)); break;
            case 10: same("shown", x.shown(i * 7), m.shown(i * 7)); break;
            default: same("digest", x.digest(map), m.digest(map)); break;
        }
    }
}
