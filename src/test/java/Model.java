import java.nio.charset.StandardCharsets;
import java.util.ArrayList;
import java.util.Collections;
import java.util.IdentityHashMap;
import java.util.List;
import java.util.NoSuchElementException;
import java.util.Set;
import java.util.TreeMap;
import java.util.TreeSet;
import java.util.regex.Matcher;
import java.util.regex.Pattern;

/** The document told a second time, with the Java library, as slow and as literal as can be. */
final class Model {
    static final int NONE = -1;
    static final int HIDDEN = -1000000;

    private static final String K = "[0-9]{1,3}";
    private static final String V = "-?[0-9]{1,3}";
    private static final String THEN_V = "(?: +[0-9]{1,3}| *-[0-9]{1,3})";
    private static final String STEP = "(?:put *" + K + THEN_V + "|del *" + K + "|add *" + K + THEN_V
            + "|cut *" + K + " +" + K + "|inc *" + K + " +" + K + THEN_V + "|snap)";
    private static final String ENTRY = K + " *: *" + V;
    private static final Pattern MAP = Pattern.compile(" *(?:" + ENTRY + "(?: *, *" + ENTRY + ")* *)?");
    private static final Pattern PROGRAM = Pattern.compile(" *" + STEP + "(?: *; *" + STEP + "){0,15} *");
    private static final List<String> WORDS = List.of("put", "del", "add", "cut", "inc", "snap");

    static final class N {
        final int token;
        final TreeMap<Integer, Integer> entries;
        final List<N> kids;

        N(int token, boolean leaf) {
            this.token = token;
            entries = leaf ? new TreeMap<>() : null;
            kids = leaf ? null : new ArrayList<>();
        }

        int size() {
            return kids == null ? entries.size() : kids.size();
        }

        TreeMap<Integer, Integer> all() {
            if (kids == null) {
                return entries;
            }
            TreeMap<Integer, Integer> all = new TreeMap<>();
            for (N kid : kids) {
                all.putAll(kid.all());
            }
            return all;
        }

        void list(List<N> nodes, List<Integer> depths, int depth) {
            nodes.add(this);
            depths.add(depth);
            if (kids != null) {
                for (N kid : kids) {
                    kid.list(nodes, depths, depth + 1);
                }
            }
        }

        List<N> nodes() {
            List<N> nodes = new ArrayList<>();
            list(nodes, new ArrayList<>(), 0);
            return nodes;
        }

        String shown() {
            StringBuilder text = new StringBuilder();
            if (kids == null) {
                for (int key : entries.keySet()) {
                    text.append(text.length() == 0 ? "" : " ").append(key).append(":").append(entries.get(key));
                }
                return "[" + text + "]";
            }
            for (N kid : kids) {
                text.append(kid.shown());
            }
            return "(" + text + ")";
        }
    }

    static final class B {
        N root;
        int token;
        int from;
    }

    final StringBuilder tape = new StringBuilder();
    final List<List<int[]>> programs = new ArrayList<>();
    final TreeMap<Integer, N> held = new TreeMap<>();
    final List<List<Integer>> from = new ArrayList<>();
    TreeMap<Integer, N> image;
    final B[] builders = new B[4];
    final int[] status = new int[5];
    String shown = "";
    int w = 4;
    int made;
    int tokens;

    int no(int why) {
        status[why]++;
        return NONE;
    }

    // ---- nodes

    int half() {
        return (w + 1) / 2;
    }

    N made(int token, boolean leaf) {
        made++;
        return new N(token, leaf);
    }

    N edit(N n, int token) {
        if (n.token == token) {
            return n;
        }
        N copy = made(token, n.kids == null);
        if (n.kids == null) {
            copy.entries.putAll(n.entries);
        } else {
            copy.kids.addAll(n.kids);
        }
        return copy;
    }

    int childFor(N n, int key) {
        for (int i = n.kids.size() - 1; i > 0; i--) {
            if (n.kids.get(i).all().firstKey() <= key) {
                return i;
            }
        }
        return 0;
    }

    N put(N root, int token, int key, int value) {
        Integer old = root.all().get(key);
        if (old != null && old == value) {
            return root;
        }
        List<N> tops = putAll(root, token, key, value);
        if (tops.size() == 1) {
            return tops.get(0);
        }
        N above = made(token, false);
        above.kids.addAll(tops);
        return above;
    }

    /** The node edited, and the one that is new behind it. */
    List<N> putAll(N n, int token, int key, int value) {
        N own = edit(n, token);
        List<N> both = new ArrayList<>(List.of(own));
        if (own.kids == null) {
            own.entries.put(key, value);
        } else {
            int i = childFor(own, key);
            List<N> now = putAll(own.kids.remove(i), token, key, value);
            own.kids.addAll(i, now);
        }
        if (own.size() > w) {
            N behind = made(token, own.kids == null);
            for (int i = 0; i < half(); i++) {
                moveLastToFirst(own, behind);
            }
            both.add(behind);
        }
        return both;
    }

    void moveLastToFirst(N a, N b) {
        if (a.kids == null) {
            int key = a.entries.lastKey();
            b.entries.put(key, a.entries.remove(key));
        } else {
            b.kids.add(0, a.kids.remove(a.kids.size() - 1));
        }
    }

    void moveFirstToLast(N a, N b) {
        if (a.kids == null) {
            int key = a.entries.firstKey();
            b.entries.put(key, a.entries.remove(key));
        } else {
            b.kids.add(a.kids.remove(0));
        }
    }

    N takeOut(N root, int token, int key) {
        if (!root.all().containsKey(key)) {
            return root;
        }
        N top = taken(root, token, key);
        return top.kids != null && top.kids.size() == 1 ? top.kids.get(0) : top;
    }

    N taken(N n, int token, int key) {
        N own = edit(n, token);
        if (own.kids == null) {
            own.entries.remove(key);
            return own;
        }
        int i = childFor(own, key);
        N low = taken(own.kids.get(i), token, key);
        own.kids.set(i, low);
        if (low.size() >= half()) {
            return own;
        }
        N ahead = i > 0 ? own.kids.get(i - 1) : null;
        N behind = i + 1 < own.kids.size() ? own.kids.get(i + 1) : null;
        if (ahead != null && ahead.size() > half()) {
            own.kids.set(i - 1, edit(ahead, token));
            moveLastToFirst(own.kids.get(i - 1), low);
        } else if (behind != null && behind.size() > half()) {
            own.kids.set(i + 1, edit(behind, token));
            moveFirstToLast(own.kids.get(i + 1), low);
        } else if (ahead != null) {
            N taker = edit(ahead, token);
            own.kids.set(i - 1, taker);
            takeAll(taker, low);
            own.kids.remove(i);
        } else {
            takeAll(low, behind);
            own.kids.remove(i + 1);
        }
        return own;
    }

    void takeAll(N taker, N giver) {
        if (giver.kids == null) {
            taker.entries.putAll(giver.entries);
        } else {
            taker.kids.addAll(giver.kids);
        }
    }

    static int held(int value) {
        return value < -999 ? -999 : value > 999 ? 999 : value;
    }

    // ---- texts

    int feed(int a, int b, int c, int d, int e) {
        StringBuilder more = new StringBuilder();
        for (int n : new int[] {a, b, c, d, e}) {
            for (byte one : new byte[] {(byte) (n >> 24), (byte) (n >> 16), (byte) (n >> 8), (byte) n}) {
                if (one != 0) {
                    more.append(new String(new byte[] {one}, StandardCharsets.ISO_8859_1));
                }
            }
        }
        if (tape.length() + more.length() > 240) {
            return NONE;
        }
        tape.append(more);
        return tape.length();
    }

    boolean end(int n) {
        if (n < 0 || n > tape.length()) {
            return false;
        }
        tape.setLength(n);
        return true;
    }

    int fault(int sort) {
        if (sort != 0 && sort != 1) {
            return -2;
        }
        return faultOf(sort == 0 ? MAP : PROGRAM, tape.toString());
    }

    /** A pattern's matcher has hit the end where the text may go on. */
    static int faultOf(Pattern pattern, String text) {
        for (int n = 1; n <= text.length(); n++) {
            Matcher matcher = pattern.matcher(text.substring(0, n));
            if (!matcher.matches() && !matcher.hitEnd()) {
                return n - 1;
            }
        }
        return pattern.matcher(text).matches() ? NONE : text.length();
    }

    static List<Integer> numbers(String text) {
        List<Integer> numbers = new ArrayList<>();
        Matcher matcher = Pattern.compile(V).matcher(text);
        while (matcher.find()) {
            numbers.add(Integer.parseInt(matcher.group()));
        }
        return numbers;
    }

    int text(int sort) {
        if (fault(sort) != NONE) {
            return NONE;
        }
        if (sort == 1) {
            if (programs.size() == 4) {
                return NONE;
            }
            programs.add(steps(tape.toString()));
            tape.setLength(0);
            return programs.size() - 1;
        }
        if (!room()) {
            return no(4);
        }
        int token = tokens++;
        N root = made(token, true);
        List<Integer> told = numbers(tape.toString());
        for (int i = 0; i < told.size(); i += 2) {
            root = put(root, token, told.get(i), told.get(i + 1));
        }
        tape.setLength(0);
        return keep(root, List.of());
    }

    static List<int[]> steps(String text) {
        List<int[]> steps = new ArrayList<>();
        for (String told : text.split(";")) {
            int[] step = {0, HIDDEN, HIDDEN, HIDDEN};
            for (int i = 0; i < 6; i++) {
                if (told.trim().startsWith(WORDS.get(i))) {
                    step[0] = i;
                }
            }
            int at = 1;
            for (int number : numbers(told)) {
                step[at++] = number;
            }
            steps.add(step);
        }
        return steps;
    }

    // ---- maps

    boolean room() {
        return held.size() < 16 && from.size() < 999;
    }

    int keep(N root, List<Integer> parents) {
        held.put(from.size(), root);
        from.add(parents);
        return from.size() - 1;
    }

    int wide(int width) {
        if (width < 3 || width > 6) {
            return no(1);
        }
        w = width;
        made = 0;
        held.clear();
        from.clear();
        image = null;
        java.util.Arrays.fill(builders, null);
        return width;
    }

    int find(int map, int key) {
        return held.containsKey(map) ? held.get(map).all().getOrDefault(key, HIDDEN) : HIDDEN;
    }

    int key(int map, int i) {
        if (!held.containsKey(map) || i < 0 || i >= held.get(map).all().size()) {
            throw new NoSuchElementException();
        }
        return new ArrayList<>(held.get(map).all().keySet()).get(i);
    }

    int about(int map, int what) {
        if (!held.containsKey(map) || what < 0 || what > 6) {
            return HIDDEN;
        }
        N root = held.get(map);
        int leaves = 0;
        for (N n : root.nodes()) {
            leaves += n.kids == null ? 1 : 0;
        }
        int levels = 1;
        for (N n = root; n.kids != null; n = n.kids.get(n.kids.size() - 1)) {
            levels++;
        }
        List<Integer> parents = from.get(map);
        return List.of(root.all().size(), levels, root.nodes().size(), leaves, total(map, 0, 999),
                parents.size() > 0 ? parents.get(0) : NONE, parents.size() > 1 ? parents.get(1) : NONE).get(what);
    }

    int below(int map, int key) {
        return held.containsKey(map) ? held.get(map).all().headMap(key).size() : NONE;
    }

    int near(int map, int key, int what) {
        if (!held.containsKey(map) || what < 0 || what > 3) {
            return NONE;
        }
        TreeMap<Integer, Integer> all = held.get(map).all();
        Integer found = what == 0 ? all.floorKey(key) : what == 1 ? all.ceilingKey(key)
                : what == 2 ? all.lowerKey(key) : all.higherKey(key);
        return found == null ? NONE : found;
    }

    int total(int map, int a, int b) {
        if (!held.containsKey(map)) {
            return HIDDEN;
        }
        int sum = 0;
        for (int key : held.get(map).all().keySet()) {
            sum += key >= a && key <= b ? held.get(map).all().get(key) : 0;
        }
        return sum;
    }

    int node(int map, int i, int what) {
        if (!held.containsKey(map) || what < 0 || what > 5) {
            return HIDDEN;
        }
        List<N> nodes = new ArrayList<>();
        List<Integer> depths = new ArrayList<>();
        held.get(map).list(nodes, depths, 0);
        if (i < 0 || i >= nodes.size()) {
            return HIDDEN;
        }
        N n = nodes.get(i);
        int maps = 0;
        for (N root : held.values()) {
            maps += identities(root).contains(n) ? 1 : 0;
        }
        return List.of(n.kids == null ? 1 : 0, n.size(), n.all().isEmpty() ? NONE : n.all().firstKey(),
                depths.get(i), maps, n.all().size()).get(what);
    }

    static Set<N> identities(N root) {
        Set<N> set = Collections.newSetFromMap(new IdentityHashMap<>());
        set.addAll(root.nodes());
        return set;
    }

    static boolean key(int key) {
        return key >= 0 && key <= 999;
    }

    static boolean value(int value) {
        return value >= -999 && value <= 999;
    }

    int having(int map, int key, int value) {
        if (!held.containsKey(map)) {
            return no(0);
        }
        if (!key(key) || !value(value)) {
            return no(1);
        }
        TreeMap<Integer, Integer> all = held.get(map).all();
        if (!all.containsKey(key) && all.size() >= 60) {
            return no(3);
        }
        return room() ? keep(put(held.get(map), tokens++, key, value), List.of(map)) : no(4);
    }

    int lacking(int map, int key) {
        if (!held.containsKey(map)) {
            return no(0);
        }
        if (!key(key)) {
            return no(1);
        }
        return room() ? keep(takeOut(held.get(map), tokens++, key), List.of(map)) : no(4);
    }

    int merge(int map, int other, int rule) {
        if (!held.containsKey(map) || !held.containsKey(other)) {
            return no(0);
        }
        if (rule < 0 || rule > 3) {
            return no(1);
        }
        TreeMap<Integer, Integer> mine = held.get(map).all();
        Set<Integer> keys = new TreeSet<>(mine.keySet());
        keys.addAll(held.get(other).all().keySet());
        if (keys.size() > 60) {
            return no(3);
        }
        if (!room()) {
            return no(4);
        }
        Set<N> own = identities(held.get(map));
        int token = tokens++;
        N root = held.get(map);
        for (N leaf : held.get(other).nodes()) {
            if (leaf.kids != null || own.contains(leaf)) {
                continue;
            }
            for (int key : leaf.entries.keySet()) {
                int theirs = leaf.entries.get(key);
                Integer old = mine.get(key);
                int value = old == null ? theirs
                        : List.of(old, theirs, Math.max(old, theirs), held(old + theirs)).get(rule);
                root = put(root, token, key, value);
            }
        }
        return keep(root, List.of(map, other));
    }

    boolean all3(int base, int map, int other) {
        return held.containsKey(base) && held.containsKey(map) && held.containsKey(other);
    }

    /** Each key that one of these maps has, with its values in them. */
    List<int[]> keysOf(int base, int map, int other) {
        TreeMap<Integer, Integer> a = held.get(base).all();
        TreeMap<Integer, Integer> b = held.get(map).all();
        TreeMap<Integer, Integer> c = held.get(other).all();
        TreeSet<Integer> keys = new TreeSet<>(a.keySet());
        keys.addAll(b.keySet());
        keys.addAll(c.keySet());
        List<int[]> all = new ArrayList<>();
        for (int key : keys) {
            all.add(new int[] {key, a.getOrDefault(key, HIDDEN), b.getOrDefault(key, HIDDEN),
                c.getOrDefault(key, HIDDEN)});
        }
        return all;
    }

    int three(int base, int map, int other, int rule) {
        if (!all3(base, map, other)) {
            return no(0);
        }
        if (rule < 0 || rule > 2) {
            return no(1);
        }
        int madeBefore = made;
        int token = tokens++;
        N root = held.get(map);
        for (int[] at : keysOf(base, map, other)) {
            int b = at[1];
            int m = at[2];
            int o = at[3];
            if (o == b || o == m) {
                continue;
            }
            int comes = m == b ? o : rule == 0 ? m : rule == 1 ? o : b;
            root = comes == HIDDEN ? takeOut(root, token, at[0]) : put(root, token, at[0], comes);
        }
        if (root.all().size() > 60 || !room()) {
            made = madeBefore;
            return no(root.all().size() > 60 ? 3 : 4);
        }
        return keep(root, List.of(map, other));
    }

    int conflicts(int base, int map, int other) {
        if (!all3(base, map, other)) {
            return NONE;
        }
        int found = 0;
        for (int[] at : keysOf(base, map, other)) {
            int b = at[1];
            int m = at[2];
            int o = at[3];
            found += o != b && o != m && m != b ? 1 : 0;
        }
        return found;
    }

    int slice(int map, int a, int b) {
        if (!held.containsKey(map)) {
            return no(0);
        }
        if (!key(a) || !key(b) || a > b) {
            return no(1);
        }
        if (!room()) {
            return no(4);
        }
        int token = tokens++;
        N root = held.get(map);
        for (int key : new TreeSet<>(root.all().keySet())) {
            root = key < a || key > b ? takeOut(root, token, key) : root;
        }
        return keep(root, List.of(map));
    }

    int drop(int map) {
        if (held.remove(map) == null) {
            return no(0);
        }
        return held.size();
    }

    // ---- builders

    int build(int builder, int map) {
        if (builder < 0 || builder > 3 || !held.containsKey(map)) {
            return no(0);
        }
        B b = new B();
        b.root = held.get(map);
        b.token = tokens++;
        b.from = map;
        builders[builder] = b;
        return b.root.nodes().size();
    }

    /** A step on a builder: how many nodes were made, or no. */
    int change(int builder, boolean inBounds, int what, int a, int b, int c) {
        if (builder < 0 || builder > 3) {
            return no(0);
        }
        if (!inBounds) {
            return no(1);
        }
        if (builders[builder] == null) {
            return no(2);
        }
        int before = made;
        return did(builders[builder], what, a, b, c) ? made - before : no(3);
    }

    boolean did(B it, int what, int a, int b, int c) {
        TreeMap<Integer, Integer> all = new TreeMap<>(it.root.all());
        if (what == 0 || what == 2) {
            if (!all.containsKey(a) && all.size() == 60) {
                return false;
            }
            it.root = put(it.root, it.token, a, what == 2 && all.containsKey(a) ? held(all.get(a) + b) : b);
        } else if (what == 1) {
            it.root = takeOut(it.root, it.token, a);
        } else if (what == 3) {
            for (int key : all.keySet()) {
                it.root = key >= a && key <= b ? takeOut(it.root, it.token, key) : it.root;
            }
        } else if (what == 4) {
            for (int key : all.keySet()) {
                if (key >= a && key <= b) {
                    it.root = put(it.root, it.token, key, held(all.get(key) + c));
                }
            }
        } else {
            if (!room()) {
                return false;
            }
            it.from = keep(it.root, List.of(it.from));
            it.token = tokens++;
        }
        return true;
    }

    int lay(int builder, int key, int value) {
        return change(builder, key(key) && value(value), 0, key, value, 0);
    }

    int take(int builder, int key) {
        return change(builder, key(key), 1, key, 0, 0);
    }

    int add(int builder, int key, int value) {
        return change(builder, key(key) && value(value), 2, key, value, 0);
    }

    int cut(int builder, int a, int b) {
        return change(builder, key(a) && key(b) && a <= b, 3, a, b, 0);
    }

    int inc(int builder, int a, int b, int value) {
        return change(builder, key(a) && key(b) && a <= b && value(value), 4, a, b, value);
    }

    int snap(int builder) {
        if (builder < 0 || builder > 3) {
            return no(0);
        }
        if (builders[builder] == null) {
            return no(2);
        }
        return did(builders[builder], 5, 0, 0, 0) ? builders[builder].from : no(4);
    }

    int freeze(int builder) {
        int number = snap(builder);
        if (number != NONE) {
            builders[builder] = null;
        }
        return number;
    }

    B open(int builder) {
        return builder < 0 || builder > 3 ? null : builders[builder];
    }

    int peek(int builder, int key) {
        return open(builder) == null ? HIDDEN : open(builder).root.all().getOrDefault(key, HIDDEN);
    }

    int builder(int builder, int what) {
        B b = open(builder);
        if (b == null || what < 0 || what > 3) {
            return HIDDEN;
        }
        int own = 0;
        for (N n : b.root.nodes()) {
            own += n.token == b.token ? 1 : 0;
        }
        return List.of(b.root.all().size(), b.root.nodes().size(), own, b.from).get(what);
    }

    int draws(int builder, int n, long seed) {
        if (builder < 0 || builder > 3) {
            return no(0);
        }
        if (n < 1 || n > 30) {
            return no(1);
        }
        if (builders[builder] == null) {
            return no(2);
        }
        int before = made;
        java.math.BigInteger x = java.math.BigInteger.valueOf(seed);
        java.math.BigInteger ring = java.math.BigInteger.ONE.shiftLeft(64);
        int[] drawn = new int[3];
        int[] of = {4, 100, 19};
        for (int i = 0; i < n; i++) {
            for (int j = 0; j < 3; j++) {
                x = x.multiply(new java.math.BigInteger("6364136223846793005"))
                        .add(new java.math.BigInteger("1442695040888963407")).mod(ring);
                drawn[j] = x.shiftRight(33).mod(java.math.BigInteger.valueOf(of[j])).intValue();
            }
            did(builders[builder], new int[] {0, 0, 2, 1}[drawn[0]], drawn[1], drawn[2] - 9, 0);
        }
        return made - before;
    }

    int step(int program, int i, int what) {
        if (program < 0 || program >= programs.size() || what < 0 || what > 3) {
            return HIDDEN;
        }
        List<int[]> steps = programs.get(program);
        return i < 0 || i >= steps.size() ? HIDDEN : steps.get(i)[what];
    }

    int run(int program, int builder) {
        if (program < 0 || program >= programs.size() || builder < 0 || builder > 3) {
            return no(0);
        }
        if (builders[builder] == null) {
            return no(2);
        }
        int done = 0;
        for (int[] step : programs.get(program)) {
            if (!did(builders[builder], step[0], step[1], step[2], step[3])) {
                return done;
            }
            done++;
        }
        return done;
    }

    // ---- two maps

    boolean both(int map, int other) {
        return held.containsKey(map) && held.containsKey(other);
    }

    int shared(int map, int other) {
        if (!both(map, other)) {
            return NONE;
        }
        Set<N> set = identities(held.get(map));
        set.retainAll(identities(held.get(other)));
        return set.size();
    }

    int looked(int map, int other) {
        if (!both(map, other)) {
            return NONE;
        }
        return about(map, 2) + about(other, 2) - 2 * shared(map, other);
    }

    int difference(int map, int other, int i, int what) {
        if (!both(map, other)) {
            return HIDDEN;
        }
        List<int[]> found = new ArrayList<>();
        for (int[] at : keysOf(map, map, other)) {
            if (at[1] != at[3]) {
                found.add(new int[] {at[0], at[1], at[3]});
            }
        }
        if (i == NONE) {
            return found.size();
        }
        return i < 0 || i >= found.size() || what < 0 || what > 2 ? HIDDEN : found.get(i)[what];
    }

    int alike(int map, int other, int what) {
        if (!both(map, other) || what < 0 || what > 1) {
            return NONE;
        }
        N a = held.get(map);
        N b = held.get(other);
        return (what == 0 ? a.all().equals(b.all()) : a.shown().equals(b.shown())) ? 1 : 0;
    }

    Set<Integer> behind(int map) {
        TreeSet<Integer> all = new TreeSet<>();
        List<Integer> open = new ArrayList<>(List.of(map));
        while (!open.isEmpty()) {
            int next = open.remove(open.size() - 1);
            if (all.add(next)) {
                open.addAll(from.get(next));
            }
        }
        return all;
    }

    int fork(int map, int other) {
        if (!both(map, other)) {
            return NONE;
        }
        TreeSet<Integer> all = new TreeSet<>(behind(map));
        all.retainAll(behind(other));
        return all.isEmpty() ? NONE : all.last();
    }

    int comesFrom(int map, int number) {
        if (!held.containsKey(map) || number < 0 || number >= from.size()) {
            return NONE;
        }
        return behind(map).contains(number) ? 1 : 0;
    }

    // ---- shown and the whole

    int show(int map) {
        if (!held.containsKey(map)) {
            return NONE;
        }
        shown = held.get(map).shown();
        return shown.length();
    }

    int shown(int i) {
        return i < 0 || i >= shown.length() ? NONE : shown.charAt(i);
    }

    int digest(int map) {
        if (!held.containsKey(map)) {
            return NONE;
        }
        long sum = 0;
        for (char sign : held.get(map).shown().toCharArray()) {
            sum = (sum * 31 + sign) % 1000003;
        }
        return (int) sum;
    }

    int status(int what) {
        return what < 0 || what > 4 ? NONE : status[what];
    }

    int image() {
        image = new TreeMap<>(held);
        return held.size();
    }

    int back() {
        if (image == null) {
            return NONE;
        }
        held.clear();
        held.putAll(image);
        java.util.Arrays.fill(builders, null);
        return held.size();
    }

    int count(int what) {
        if (what < 0 || what > 7) {
            return HIDDEN;
        }
        Set<N> live = Collections.newSetFromMap(new IdentityHashMap<>());
        for (N root : held.values()) {
            live.addAll(root.nodes());
        }
        int bits = 0;
        for (int i = 0; i < 4; i++) {
            if (builders[i] != null) {
                live.addAll(builders[i].root.nodes());
                bits += 1 << i;
            }
        }
        return List.of(w, held.size(), from.size(), made, live.size(), programs.size(), tape.length(), bits).get(what);
    }
}
